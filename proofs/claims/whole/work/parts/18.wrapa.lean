abbrev RM_L_join : Room := { frames := 8, cells := 1, slots := 6, locals := 209 }
abbrev MC_L_join : Nat := 1
abbrev MS_L_join : Nat := 6
abbrev wf_L_join (K : Nat → ClassId) (aX : Nat) (aC : Nat) (aCr : Nat) (aR : Nat) (aH : Nat) (aHr : Nat) (aT : Nat) (aL : Nat) (aS : Nat) (aO : Nat) (xS : Int32) (xF : Int32) (v : Int32 × Int32 × Int32 × Int32 × (Nat → Int32) × Int32 × Int32 × Int32 × Int32 × (Nat → Int32) × (Nat → Int64)) : va_W := [(aX, .inr (5, [.ref aC, .ref aR, .ref aH, .ref aT, .ref aL, .ref aS, .int xS, .int xF, .int v.2.1, .int v.2.2.1, .int v.2.2.2.1])), (aC, .inr (0, [.ref aCr])), (aCr, .inl (K 0, 55, .inl v.2.2.2.2.1)), (aR, .inr (4, [.int v.2.2.2.2.2.1, .int v.2.2.2.2.2.2.1])), (aH, .inr (2, [.ref aHr, .int v.2.2.2.2.2.2.2.1, .int v.2.2.2.2.2.2.2.2.1])), (aHr, .inl (K 1, 495, .inl v.2.2.2.2.2.2.2.2.2.1)), (aO, .inl (K 13, 1, .inr (.inl v.2.2.2.2.2.2.2.2.2.2)))]
set_option maxHeartbeats 4000000 in
set_option maxRecDepth 100000 in
theorem c_L_join (l : Launch) (hfl : l.stackTraces = false) (D : va_G) (K : Nat → ClassId) (aX : Nat) (aC : Nat) (aCr : Nat) (aR : Nat) (aH : Nat) (aHr : Nat) (aT : Nat) (aL : Nat) (aS : Nat) (aO : Nat) (xS : Int32) (xF : Int32) (xR : Int32) (xD : Int32) (xC : Int32) (row : Nat → Int32) (rR : Int32) (rD : Int32) (kN : Int32) (kK : Int32) (kF : Nat → Int32) (oL : Nat → Int64) (p2 : Int32) (v : Int32 × Int32 × Int32 × Int32 × (Nat → Int32) × Int32 × Int32 × Int32 × Int32 × (Nat → Int32) × (Nat → Int64)) (hF : f_L_join xR xD xC row rR rD kN kK kF oL p2 = some v) (sz : Nat) :
    (vx_Met l yL_join wsL_join RM_L_join (PC D (TY K) [(aX, .inr (5, [.ref aC, .ref aR, .ref aH, .ref aT, .ref aL, .ref aS, .int xS, .int xF, .int xR, .int xD, .int xC])), (aC, .inr (0, [.ref aCr])), (aCr, .inl (K 0, 55, .inl row)), (aR, .inr (4, [.int rR, .int rD])), (aH, .inr (2, [.ref aHr, .int kN, .int kK])), (aHr, .inl (K 1, 495, .inl kF)), (aO, .inl (K 13, 1, .inr (.inl oL)))] [.ref aX, .int p2, .ref aO] sz) (QI D (TY K) (wf_L_join K aX aC aCr aR aH aHr aT aL aS aO xS xF) v (va_A [(aX, .inr (5, [.ref aC, .ref aR, .ref aH, .ref aT, .ref aL, .ref aS, .int xS, .int xF, .int xR, .int xD, .int xC])), (aC, .inr (0, [.ref aCr])), (aCr, .inl (K 0, 55, .inl row)), (aR, .inr (4, [.int rR, .int rD])), (aH, .inr (2, [.ref aHr, .int kN, .int kK])), (aHr, .inl (K 1, 495, .inl kF)), (aO, .inl (K 13, 1, .inr (.inl oL)))] sz)) XN MC_L_join MS_L_join (va_A [(aX, .inr (5, [.ref aC, .ref aR, .ref aH, .ref aT, .ref aL, .ref aS, .int xS, .int xF, .int xR, .int xD, .int xC])), (aC, .inr (0, [.ref aCr])), (aCr, .inl (K 0, 55, .inl row)), (aR, .inr (4, [.int rR, .int rD])), (aH, .inr (2, [.ref aHr, .int kN, .int kK])), (aHr, .inl (K 1, 495, .inl kF)), (aO, .inl (K 13, 1, .inr (.inl oL)))] sz)) := by
  refine proH (Qf := fun A => QI D (TY K) (wf_L_join K aX aC aCr aR aH aHr aT aL aS aO xS xF) v A) (XCf := fun _ => XN) (cc := cL_join) (maxL := 4) (ret := (some .int)) (by decide +kernel) rfl (Nat.le_of_ble_eq_true rfl) ?_
  intro p e s m args below meth c hx hb hr hts hown hlocks hml htab hK A hA hE hP hD hS ls hl
  have hown : s.vm.findClass RL = some m.cls := hown
  have hl : lv_has ls 4 [(0, .ref aX), (1, .int p2), (2, .ref aO)] := hl
  rw [f_L_join] at hF
  refine lv_aload_n hx hb dL_join_0 rfl (lv_at hl 2 rfl) ?_
  refine lv_iconst (v := (0 : Int32)) hx hb dL_join_1 (by decide) ?_
  refine lv_aload_n hx hb dL_join_2 rfl (lv_at hl 0 rfl) ?_
  refine lv_iload_n hx hb dL_join_3 rfl (lv_at hl 1 rfl) ?_
  obtain ⟨v1, hv1, hF⟩ := oB hF
  refine callX_i (wr := [(aO, .inl (K 13, 1, .inr (.inl oL)))]) (wn := [(aX, .inr (5, [.ref aC, .ref aR, .ref aH, .ref aT, .ref aL, .ref aS, .int xS, .int xF, .int v1.2.2.1, .int v1.2.2.2.1, .int v1.2.2.2.2.1])), (aC, .inr (0, [.ref aCr])), (aCr, .inl (K 0, 55, .inl v1.2.2.2.2.2.1)), (aR, .inr (4, [.int v1.2.2.2.2.2.2.1, .int v1.2.2.2.2.2.2.2.1])), (aH, .inr (2, [.ref aHr, .int v1.2.2.2.2.2.2.2.2.1, .int v1.2.2.2.2.2.2.2.2.2.1])), (aHr, .inl (K 1, 495, .inl v1.2.2.2.2.2.2.2.2.2.2)), (aO, .inl (K 13, 1, .inr (.inl oL)))]) (vx_runV (As := [.int p2]) (rest := [.int (0 : Int32), .ref aO]) ⟨hx, hb, hml, hown, hts⟩ (c_X7_join l hfl D K aX aC aCr aR aH aHr aT aL aS xS xF xR xD xC row rR rD kN kK kF p2 v1 hv1 s.heap.size) (cwV 1 hts gL_join_X7_join rfl rfl rfl (by decide +kernel) ⟨(Nat.le_of_ble_eq_true rfl), (Nat.le_of_ble_eq_true rfl)⟩) (prV hE hK hP hD hS hA [0, 1, 2, 3, 4, 5] rfl rfl 5 0 rfl rfl rfl) rfl rfl hl.1 rfl (lv_room (Nat.le_of_ble_eq_true rfl)) dL_join_4 ⟨(Nat.le_of_ble_eq_true rfl), (Nat.le_of_ble_eq_true rfl)⟩) hP hD hS hA [0, 1, 2, 3, 4, 5] [6] [1, 2, 3, 4, 5, 6, 0] rfl rfl rfl (by decide) rfl rfl (fun hzv1 H locs hP hD hS => ?_) (fun hzv1 q9 ce H locs hP hD hS hce hcv hcl => ?_)
  · have hF := oT hzv1 hF
    refine lv_i2l (v := v1.2.1.toInt64) hx hb dL_join_7 rfl ?_
    refine va_last hx hb hK hP hD hS 6 13 rfl rfl (inB_in (by decide : inB (0 : Int32) 1 = true)) dL_join_8 (fun H locs hP hD hS => ?_)
    have hP : va_P D vwC7 [(aX, .inr (5, [.ref aC, .ref aR, .ref aH, .ref aT, .ref aL, .ref aS, .int xS, .int xF, .int v1.2.2.1, .int v1.2.2.2.1, .int v1.2.2.2.2.1])), (aC, .inr (0, [.ref aCr])), (aCr, .inl (K 0, 55, .inl v1.2.2.2.2.2.1)), (aR, .inr (4, [.int v1.2.2.2.2.2.2.1, .int v1.2.2.2.2.2.2.2.1])), (aH, .inr (2, [.ref aHr, .int v1.2.2.2.2.2.2.2.2.1, .int v1.2.2.2.2.2.2.2.2.2.1])), (aHr, .inl (K 1, 495, .inl v1.2.2.2.2.2.2.2.2.2.2)), (aO, .inl (K 13, 1, .inr (.inl (vp_updL oL (0 : Int32).toNatClampNeg v1.2.1.toInt64))))] H := hP
    have hD : va_D A [(aX, .inr (5, [.ref aC, .ref aR, .ref aH, .ref aT, .ref aL, .ref aS, .int xS, .int xF, .int v1.2.2.1, .int v1.2.2.2.1, .int v1.2.2.2.2.1])), (aC, .inr (0, [.ref aCr])), (aCr, .inl (K 0, 55, .inl v1.2.2.2.2.2.1)), (aR, .inr (4, [.int v1.2.2.2.2.2.2.1, .int v1.2.2.2.2.2.2.2.1])), (aH, .inr (2, [.ref aHr, .int v1.2.2.2.2.2.2.2.2.1, .int v1.2.2.2.2.2.2.2.2.2.1])), (aHr, .inl (K 1, 495, .inl v1.2.2.2.2.2.2.2.2.2.2)), (aO, .inl (K 13, 1, .inr (.inl (vp_updL oL (0 : Int32).toNatClampNeg v1.2.1.toInt64))))] := hD
    refine lv_goto (tgt := 15) hx hb dL_join_9 (by decide) ?_
    refine lv_iconst (v := (0 : Int32)) hx hb dL_join_15 (by decide) ?_
    exact vx_ret (fin_i (u := ((0 : Int32), (v1.2.2.1, v1.2.2.2.1, v1.2.2.2.2.1, v1.2.2.2.2.2.1, v1.2.2.2.2.2.2.1, v1.2.2.2.2.2.2.2.1, v1.2.2.2.2.2.2.2.2.1, v1.2.2.2.2.2.2.2.2.2.1, v1.2.2.2.2.2.2.2.2.2.2, vp_updL oL (0 : Int32).toNatClampNeg v1.2.1.toInt64))) hF hx hb hr hlocks hK hP hD hS (Nat.le_of_ble_eq_true rfl) (Nat.le_of_ble_eq_true rfl) dL_join_16)
  · have hF := oF hzv1 hF
    by_cases c2 : v1.1 = 6
    · have hF := oT c2 hF
      rw [c2] at hcl
      refine vx_catch (E := "java/lang/UnsupportedOperationException") (name := "java/lang/UnsupportedOperationException") hown [] ⟨0, 9, 12, 13⟩ [] (htab.trans rfl) (fun z hz => nomatch hz) (by decide) (by decide) (hts (.classLink RL 13 "java/lang/UnsupportedOperationException") (List.mem_of_getElem? (i := 1) rfl)) (va_Nw.use rfl (hE.2.2.2.2.1 _ (List.mem_of_getElem? (i := 0) rfl))) hce hcv hcl ?_
      refine lv_astore_n (lv' := [(3, .ref q9), (0, .ref aX), (1, .int p2), (2, .ref aO)]) hx hb dL_join_12 rfl hl (by decide) rfl (fun ls hl => ?_)
      refine lv_iconst (v := (1 : Int32)) hx hb dL_join_13 (by decide) ?_
      exact vx_ret (fin_i (u := ((1 : Int32), (v1.2.2.1, v1.2.2.2.1, v1.2.2.2.2.1, v1.2.2.2.2.2.1, v1.2.2.2.2.2.2.1, v1.2.2.2.2.2.2.2.1, v1.2.2.2.2.2.2.2.2.1, v1.2.2.2.2.2.2.2.2.2.1, v1.2.2.2.2.2.2.2.2.2.2, oL))) hF hx hb hr hlocks hK hP hD hS (Nat.le_of_ble_eq_true rfl) (Nat.le_of_ble_eq_true rfl) dL_join_14)
    have hF := oF c2 hF
    exact nomatch hF
abbrev RM_L_leave : Room := { frames := 8, cells := 1, slots := 6, locals := 209 }
abbrev MC_L_leave : Nat := 1
abbrev MS_L_leave : Nat := 6
abbrev wf_L_leave (K : Nat → ClassId) (aX : Nat) (aC : Nat) (aCr : Nat) (aR : Nat) (aH : Nat) (aHr : Nat) (aT : Nat) (aL : Nat) (aS : Nat) (aO : Nat) (xS : Int32) (xF : Int32) (v : Int32 × Int32 × Int32 × Int32 × (Nat → Int32) × Int32 × Int32 × Int32 × Int32 × (Nat → Int32) × (Nat → Int64)) : va_W := [(aX, .inr (5, [.ref aC, .ref aR, .ref aH, .ref aT, .ref aL, .ref aS, .int xS, .int xF, .int v.2.1, .int v.2.2.1, .int v.2.2.2.1])), (aC, .inr (0, [.ref aCr])), (aCr, .inl (K 0, 55, .inl v.2.2.2.2.1)), (aR, .inr (4, [.int v.2.2.2.2.2.1, .int v.2.2.2.2.2.2.1])), (aH, .inr (2, [.ref aHr, .int v.2.2.2.2.2.2.2.1, .int v.2.2.2.2.2.2.2.2.1])), (aHr, .inl (K 1, 495, .inl v.2.2.2.2.2.2.2.2.2.1)), (aO, .inl (K 13, 1, .inr (.inl v.2.2.2.2.2.2.2.2.2.2)))]
set_option maxHeartbeats 4000000 in
set_option maxRecDepth 100000 in
theorem c_L_leave (l : Launch) (hfl : l.stackTraces = false) (D : va_G) (K : Nat → ClassId) (aX : Nat) (aC : Nat) (aCr : Nat) (aR : Nat) (aH : Nat) (aHr : Nat) (aT : Nat) (aL : Nat) (aS : Nat) (aO : Nat) (xS : Int32) (xF : Int32) (xR : Int32) (xD : Int32) (xC : Int32) (row : Nat → Int32) (rR : Int32) (rD : Int32) (kN : Int32) (kK : Int32) (kF : Nat → Int32) (oL : Nat → Int64) (p2 : Int32) (v : Int32 × Int32 × Int32 × Int32 × (Nat → Int32) × Int32 × Int32 × Int32 × Int32 × (Nat → Int32) × (Nat → Int64)) (hF : f_L_leave xR xD xC row rR rD kN kK kF oL p2 = some v) (sz : Nat) :
    (vx_Met l yL_leave wsL_leave RM_L_leave (PC D (TY K) [(aX, .inr (5, [.ref aC, .ref aR, .ref aH, .ref aT, .ref aL, .ref aS, .int xS, .int xF, .int xR, .int xD, .int xC])), (aC, .inr (0, [.ref aCr])), (aCr, .inl (K 0, 55, .inl row)), (aR, .inr (4, [.int rR, .int rD])), (aH, .inr (2, [.ref aHr, .int kN, .int kK])), (aHr, .inl (K 1, 495, .inl kF)), (aO, .inl (K 13, 1, .inr (.inl oL)))] [.ref aX, .int p2, .ref aO] sz) (QI D (TY K) (wf_L_leave K aX aC aCr aR aH aHr aT aL aS aO xS xF) v (va_A [(aX, .inr (5, [.ref aC, .ref aR, .ref aH, .ref aT, .ref aL, .ref aS, .int xS, .int xF, .int xR, .int xD, .int xC])), (aC, .inr (0, [.ref aCr])), (aCr, .inl (K 0, 55, .inl row)), (aR, .inr (4, [.int rR, .int rD])), (aH, .inr (2, [.ref aHr, .int kN, .int kK])), (aHr, .inl (K 1, 495, .inl kF)), (aO, .inl (K 13, 1, .inr (.inl oL)))] sz)) XN MC_L_leave MS_L_leave (va_A [(aX, .inr (5, [.ref aC, .ref aR, .ref aH, .ref aT, .ref aL, .ref aS, .int xS, .int xF, .int xR, .int xD, .int xC])), (aC, .inr (0, [.ref aCr])), (aCr, .inl (K 0, 55, .inl row)), (aR, .inr (4, [.int rR, .int rD])), (aH, .inr (2, [.ref aHr, .int kN, .int kK])), (aHr, .inl (K 1, 495, .inl kF)), (aO, .inl (K 13, 1, .inr (.inl oL)))] sz)) := by
  refine proH (Qf := fun A => QI D (TY K) (wf_L_leave K aX aC aCr aR aH aHr aT aL aS aO xS xF) v A) (XCf := fun _ => XN) (cc := cL_leave) (maxL := 4) (ret := (some .int)) (by decide +kernel) rfl (Nat.le_of_ble_eq_true rfl) ?_
  intro p e s m args below meth c hx hb hr hts hown hlocks hml htab hK A hA hE hP hD hS ls hl
  have hown : s.vm.findClass RL = some m.cls := hown
  have hl : lv_has ls 4 [(0, .ref aX), (1, .int p2), (2, .ref aO)] := hl
  rw [f_L_leave] at hF
  refine lv_aload_n hx hb dL_leave_0 rfl (lv_at hl 2 rfl) ?_
  refine lv_iconst (v := (0 : Int32)) hx hb dL_leave_1 (by decide) ?_
  refine lv_aload_n hx hb dL_leave_2 rfl (lv_at hl 0 rfl) ?_
  refine lv_iload_n hx hb dL_leave_3 rfl (lv_at hl 1 rfl) ?_
  obtain ⟨v1, hv1, hF⟩ := oB hF
  refine callX_i (wr := [(aO, .inl (K 13, 1, .inr (.inl oL)))]) (wn := [(aX, .inr (5, [.ref aC, .ref aR, .ref aH, .ref aT, .ref aL, .ref aS, .int xS, .int xF, .int v1.2.2.1, .int v1.2.2.2.1, .int v1.2.2.2.2.1])), (aC, .inr (0, [.ref aCr])), (aCr, .inl (K 0, 55, .inl v1.2.2.2.2.2.1)), (aR, .inr (4, [.int v1.2.2.2.2.2.2.1, .int v1.2.2.2.2.2.2.2.1])), (aH, .inr (2, [.ref aHr, .int v1.2.2.2.2.2.2.2.2.1, .int v1.2.2.2.2.2.2.2.2.2.1])), (aHr, .inl (K 1, 495, .inl v1.2.2.2.2.2.2.2.2.2.2)), (aO, .inl (K 13, 1, .inr (.inl oL)))]) (vx_runV (As := [.int p2]) (rest := [.int (0 : Int32), .ref aO]) ⟨hx, hb, hml, hown, hts⟩ (c_X7_leave l hfl D K aX aC aCr aR aH aHr aT aL aS xS xF xR xD xC row rR rD kN kK kF p2 v1 hv1 s.heap.size) (cwV 1 hts gL_leave_X7_leave rfl rfl rfl (by decide +kernel) ⟨(Nat.le_of_ble_eq_true rfl), (Nat.le_of_ble_eq_true rfl)⟩) (prV hE hK hP hD hS hA [0, 1, 2, 3, 4, 5] rfl rfl 5 0 rfl rfl rfl) rfl rfl hl.1 rfl (lv_room (Nat.le_of_ble_eq_true rfl)) dL_leave_4 ⟨(Nat.le_of_ble_eq_true rfl), (Nat.le_of_ble_eq_true rfl)⟩) hP hD hS hA [0, 1, 2, 3, 4, 5] [6] [1, 2, 3, 4, 5, 6, 0] rfl rfl rfl (by decide) rfl rfl (fun hzv1 H locs hP hD hS => ?_) (fun hzv1 q9 ce H locs hP hD hS hce hcv hcl => ?_)
  · have hF := oT hzv1 hF
    refine lv_i2l (v := v1.2.1.toInt64) hx hb dL_leave_7 rfl ?_
    refine va_last hx hb hK hP hD hS 6 13 rfl rfl (inB_in (by decide : inB (0 : Int32) 1 = true)) dL_leave_8 (fun H locs hP hD hS => ?_)
    have hP : va_P D vwC7 [(aX, .inr (5, [.ref aC, .ref aR, .ref aH, .ref aT, .ref aL, .ref aS, .int xS, .int xF, .int v1.2.2.1, .int v1.2.2.2.1, .int v1.2.2.2.2.1])), (aC, .inr (0, [.ref aCr])), (aCr, .inl (K 0, 55, .inl v1.2.2.2.2.2.1)), (aR, .inr (4, [.int v1.2.2.2.2.2.2.1, .int v1.2.2.2.2.2.2.2.1])), (aH, .inr (2, [.ref aHr, .int v1.2.2.2.2.2.2.2.2.1, .int v1.2.2.2.2.2.2.2.2.2.1])), (aHr, .inl (K 1, 495, .inl v1.2.2.2.2.2.2.2.2.2.2)), (aO, .inl (K 13, 1, .inr (.inl (vp_updL oL (0 : Int32).toNatClampNeg v1.2.1.toInt64))))] H := hP
    have hD : va_D A [(aX, .inr (5, [.ref aC, .ref aR, .ref aH, .ref aT, .ref aL, .ref aS, .int xS, .int xF, .int v1.2.2.1, .int v1.2.2.2.1, .int v1.2.2.2.2.1])), (aC, .inr (0, [.ref aCr])), (aCr, .inl (K 0, 55, .inl v1.2.2.2.2.2.1)), (aR, .inr (4, [.int v1.2.2.2.2.2.2.1, .int v1.2.2.2.2.2.2.2.1])), (aH, .inr (2, [.ref aHr, .int v1.2.2.2.2.2.2.2.2.1, .int v1.2.2.2.2.2.2.2.2.2.1])), (aHr, .inl (K 1, 495, .inl v1.2.2.2.2.2.2.2.2.2.2)), (aO, .inl (K 13, 1, .inr (.inl (vp_updL oL (0 : Int32).toNatClampNeg v1.2.1.toInt64))))] := hD
    refine lv_goto (tgt := 15) hx hb dL_leave_9 (by decide) ?_
    refine lv_iconst (v := (0 : Int32)) hx hb dL_leave_15 (by decide) ?_
    exact vx_ret (fin_i (u := ((0 : Int32), (v1.2.2.1, v1.2.2.2.1, v1.2.2.2.2.1, v1.2.2.2.2.2.1, v1.2.2.2.2.2.2.1, v1.2.2.2.2.2.2.2.1, v1.2.2.2.2.2.2.2.2.1, v1.2.2.2.2.2.2.2.2.2.1, v1.2.2.2.2.2.2.2.2.2.2, vp_updL oL (0 : Int32).toNatClampNeg v1.2.1.toInt64))) hF hx hb hr hlocks hK hP hD hS (Nat.le_of_ble_eq_true rfl) (Nat.le_of_ble_eq_true rfl) dL_leave_16)
  · have hF := oF hzv1 hF
    by_cases c2 : v1.1 = 6
    · have hF := oT c2 hF
      rw [c2] at hcl
      refine vx_catch (E := "java/lang/UnsupportedOperationException") (name := "java/lang/UnsupportedOperationException") hown [] ⟨0, 9, 12, 13⟩ [] (htab.trans rfl) (fun z hz => nomatch hz) (by decide) (by decide) (hts (.classLink RL 13 "java/lang/UnsupportedOperationException") (List.mem_of_getElem? (i := 1) rfl)) (va_Nw.use rfl (hE.2.2.2.2.1 _ (List.mem_of_getElem? (i := 0) rfl))) hce hcv hcl ?_
      refine lv_astore_n (lv' := [(3, .ref q9), (0, .ref aX), (1, .int p2), (2, .ref aO)]) hx hb dL_leave_12 rfl hl (by decide) rfl (fun ls hl => ?_)
      refine lv_iconst (v := (1 : Int32)) hx hb dL_leave_13 (by decide) ?_
      exact vx_ret (fin_i (u := ((1 : Int32), (v1.2.2.1, v1.2.2.2.1, v1.2.2.2.2.1, v1.2.2.2.2.2.1, v1.2.2.2.2.2.2.1, v1.2.2.2.2.2.2.2.1, v1.2.2.2.2.2.2.2.2.1, v1.2.2.2.2.2.2.2.2.2.1, v1.2.2.2.2.2.2.2.2.2.2, oL))) hF hx hb hr hlocks hK hP hD hS (Nat.le_of_ble_eq_true rfl) (Nat.le_of_ble_eq_true rfl) dL_leave_14)
    have hF := oF c2 hF
    exact nomatch hF
abbrev RM_L_move : Room := { frames := 8, cells := 1, slots := 6, locals := 210 }
abbrev MC_L_move : Nat := 1
abbrev MS_L_move : Nat := 6
abbrev wf_L_move (K : Nat → ClassId) (aX : Nat) (aC : Nat) (aCr : Nat) (aR : Nat) (aH : Nat) (aHr : Nat) (aT : Nat) (aL : Nat) (aS : Nat) (aO : Nat) (xS : Int32) (xF : Int32) (v : Int32 × Int32 × Int32 × Int32 × (Nat → Int32) × Int32 × Int32 × Int32 × Int32 × (Nat → Int32) × (Nat → Int64)) : va_W := [(aX, .inr (5, [.ref aC, .ref aR, .ref aH, .ref aT, .ref aL, .ref aS, .int xS, .int xF, .int v.2.1, .int v.2.2.1, .int v.2.2.2.1])), (aC, .inr (0, [.ref aCr])), (aCr, .inl (K 0, 55, .inl v.2.2.2.2.1)), (aR, .inr (4, [.int v.2.2.2.2.2.1, .int v.2.2.2.2.2.2.1])), (aH, .inr (2, [.ref aHr, .int v.2.2.2.2.2.2.2.1, .int v.2.2.2.2.2.2.2.2.1])), (aHr, .inl (K 1, 495, .inl v.2.2.2.2.2.2.2.2.2.1)), (aO, .inl (K 13, 1, .inr (.inl v.2.2.2.2.2.2.2.2.2.2)))]
set_option maxHeartbeats 4000000 in
set_option maxRecDepth 100000 in
theorem c_L_move (l : Launch) (hfl : l.stackTraces = false) (D : va_G) (K : Nat → ClassId) (aX : Nat) (aC : Nat) (aCr : Nat) (aR : Nat) (aH : Nat) (aHr : Nat) (aT : Nat) (aL : Nat) (aS : Nat) (aO : Nat) (xS : Int32) (xF : Int32) (xR : Int32) (xD : Int32) (xC : Int32) (row : Nat → Int32) (rR : Int32) (rD : Int32) (kN : Int32) (kK : Int32) (kF : Nat → Int32) (oL : Nat → Int64) (p2 : Int32) (p3 : Int32) (v : Int32 × Int32 × Int32 × Int32 × (Nat → Int32) × Int32 × Int32 × Int32 × Int32 × (Nat → Int32) × (Nat → Int64)) (hF : f_L_move xR xD xC row rR rD kN kK kF oL p2 p3 = some v) (sz : Nat) :
    (vx_Met l yL_move wsL_move RM_L_move (PC D (TY K) [(aX, .inr (5, [.ref aC, .ref aR, .ref aH, .ref aT, .ref aL, .ref aS, .int xS, .int xF, .int xR, .int xD, .int xC])), (aC, .inr (0, [.ref aCr])), (aCr, .inl (K 0, 55, .inl row)), (aR, .inr (4, [.int rR, .int rD])), (aH, .inr (2, [.ref aHr, .int kN, .int kK])), (aHr, .inl (K 1, 495, .inl kF)), (aO, .inl (K 13, 1, .inr (.inl oL)))] [.ref aX, .int p2, .int p3, .ref aO] sz) (QI D (TY K) (wf_L_move K aX aC aCr aR aH aHr aT aL aS aO xS xF) v (va_A [(aX, .inr (5, [.ref aC, .ref aR, .ref aH, .ref aT, .ref aL, .ref aS, .int xS, .int xF, .int xR, .int xD, .int xC])), (aC, .inr (0, [.ref aCr])), (aCr, .inl (K 0, 55, .inl row)), (aR, .inr (4, [.int rR, .int rD])), (aH, .inr (2, [.ref aHr, .int kN, .int kK])), (aHr, .inl (K 1, 495, .inl kF)), (aO, .inl (K 13, 1, .inr (.inl oL)))] sz)) XN MC_L_move MS_L_move (va_A [(aX, .inr (5, [.ref aC, .ref aR, .ref aH, .ref aT, .ref aL, .ref aS, .int xS, .int xF, .int xR, .int xD, .int xC])), (aC, .inr (0, [.ref aCr])), (aCr, .inl (K 0, 55, .inl row)), (aR, .inr (4, [.int rR, .int rD])), (aH, .inr (2, [.ref aHr, .int kN, .int kK])), (aHr, .inl (K 1, 495, .inl kF)), (aO, .inl (K 13, 1, .inr (.inl oL)))] sz)) := by
  refine proH (Qf := fun A => QI D (TY K) (wf_L_move K aX aC aCr aR aH aHr aT aL aS aO xS xF) v A) (XCf := fun _ => XN) (cc := cL_move) (maxL := 5) (ret := (some .int)) (by decide +kernel) rfl (Nat.le_of_ble_eq_true rfl) ?_
  intro p e s m args below meth c hx hb hr hts hown hlocks hml htab hK A hA hE hP hD hS ls hl
  have hown : s.vm.findClass RL = some m.cls := hown
  have hl : lv_has ls 5 [(0, .ref aX), (1, .int p2), (2, .int p3), (3, .ref aO)] := hl
  rw [f_L_move] at hF
  refine lv_aload_n hx hb dL_move_0 rfl (lv_at hl 3 rfl) ?_
  refine lv_iconst (v := (0 : Int32)) hx hb dL_move_1 (by decide) ?_
  refine lv_aload_n hx hb dL_move_2 rfl (lv_at hl 0 rfl) ?_
  refine lv_iload_n hx hb dL_move_3 rfl (lv_at hl 1 rfl) ?_
  refine lv_iload_n hx hb dL_move_4 rfl (lv_at hl 2 rfl) ?_
  obtain ⟨v1, hv1, hF⟩ := oB hF
  refine callX_i (wr := [(aO, .inl (K 13, 1, .inr (.inl oL)))]) (wn := [(aX, .inr (5, [.ref aC, .ref aR, .ref aH, .ref aT, .ref aL, .ref aS, .int xS, .int xF, .int v1.2.2.1, .int v1.2.2.2.1, .int v1.2.2.2.2.1])), (aC, .inr (0, [.ref aCr])), (aCr, .inl (K 0, 55, .inl v1.2.2.2.2.2.1)), (aR, .inr (4, [.int v1.2.2.2.2.2.2.1, .int v1.2.2.2.2.2.2.2.1])), (aH, .inr (2, [.ref aHr, .int v1.2.2.2.2.2.2.2.2.1, .int v1.2.2.2.2.2.2.2.2.2.1])), (aHr, .inl (K 1, 495, .inl v1.2.2.2.2.2.2.2.2.2.2)), (aO, .inl (K 13, 1, .inr (.inl oL)))]) (vx_runV (As := [.int p2, .int p3]) (rest := [.int (0 : Int32), .ref aO]) ⟨hx, hb, hml, hown, hts⟩ (c_X7_move l hfl D K aX aC aCr aR aH aHr aT aL aS xS xF xR xD xC row rR rD kN kK kF p2 p3 v1 hv1 s.heap.size) (cwV 2 hts gL_move_X7_move rfl rfl rfl (by decide +kernel) ⟨(Nat.le_of_ble_eq_true rfl), (Nat.le_of_ble_eq_true rfl)⟩) (prV hE hK hP hD hS hA [0, 1, 2, 3, 4, 5] rfl rfl 5 0 rfl rfl rfl) rfl rfl hl.1 rfl (lv_room (Nat.le_of_ble_eq_true rfl)) dL_move_5 ⟨(Nat.le_of_ble_eq_true rfl), (Nat.le_of_ble_eq_true rfl)⟩) hP hD hS hA [0, 1, 2, 3, 4, 5] [6] [1, 2, 3, 4, 5, 6, 0] rfl rfl rfl (by decide) rfl rfl (fun hzv1 H locs hP hD hS => ?_) (fun hzv1 q9 ce H locs hP hD hS hce hcv hcl => ?_)
  · have hF := oT hzv1 hF
    refine lv_i2l (v := v1.2.1.toInt64) hx hb dL_move_8 rfl ?_
    refine va_last hx hb hK hP hD hS 6 13 rfl rfl (inB_in (by decide : inB (0 : Int32) 1 = true)) dL_move_9 (fun H locs hP hD hS => ?_)
    have hP : va_P D vwC7 [(aX, .inr (5, [.ref aC, .ref aR, .ref aH, .ref aT, .ref aL, .ref aS, .int xS, .int xF, .int v1.2.2.1, .int v1.2.2.2.1, .int v1.2.2.2.2.1])), (aC, .inr (0, [.ref aCr])), (aCr, .inl (K 0, 55, .inl v1.2.2.2.2.2.1)), (aR, .inr (4, [.int v1.2.2.2.2.2.2.1, .int v1.2.2.2.2.2.2.2.1])), (aH, .inr (2, [.ref aHr, .int v1.2.2.2.2.2.2.2.2.1, .int v1.2.2.2.2.2.2.2.2.2.1])), (aHr, .inl (K 1, 495, .inl v1.2.2.2.2.2.2.2.2.2.2)), (aO, .inl (K 13, 1, .inr (.inl (vp_updL oL (0 : Int32).toNatClampNeg v1.2.1.toInt64))))] H := hP
    have hD : va_D A [(aX, .inr (5, [.ref aC, .ref aR, .ref aH, .ref aT, .ref aL, .ref aS, .int xS, .int xF, .int v1.2.2.1, .int v1.2.2.2.1, .int v1.2.2.2.2.1])), (aC, .inr (0, [.ref aCr])), (aCr, .inl (K 0, 55, .inl v1.2.2.2.2.2.1)), (aR, .inr (4, [.int v1.2.2.2.2.2.2.1, .int v1.2.2.2.2.2.2.2.1])), (aH, .inr (2, [.ref aHr, .int v1.2.2.2.2.2.2.2.2.1, .int v1.2.2.2.2.2.2.2.2.2.1])), (aHr, .inl (K 1, 495, .inl v1.2.2.2.2.2.2.2.2.2.2)), (aO, .inl (K 13, 1, .inr (.inl (vp_updL oL (0 : Int32).toNatClampNeg v1.2.1.toInt64))))] := hD
    refine lv_goto (tgt := 17) hx hb dL_move_10 (by decide) ?_
    refine lv_iconst (v := (0 : Int32)) hx hb dL_move_17 (by decide) ?_
    exact vx_ret (fin_i (u := ((0 : Int32), (v1.2.2.1, v1.2.2.2.1, v1.2.2.2.2.1, v1.2.2.2.2.2.1, v1.2.2.2.2.2.2.1, v1.2.2.2.2.2.2.2.1, v1.2.2.2.2.2.2.2.2.1, v1.2.2.2.2.2.2.2.2.2.1, v1.2.2.2.2.2.2.2.2.2.2, vp_updL oL (0 : Int32).toNatClampNeg v1.2.1.toInt64))) hF hx hb hr hlocks hK hP hD hS (Nat.le_of_ble_eq_true rfl) (Nat.le_of_ble_eq_true rfl) dL_move_18)
  · have hF := oF hzv1 hF
    by_cases c2 : v1.1 = 6
    · have hF := oT c2 hF
      rw [c2] at hcl
      refine vx_catch (E := "java/lang/UnsupportedOperationException") (name := "java/lang/UnsupportedOperationException") hown [] ⟨0, 10, 13, 13⟩ [] (htab.trans rfl) (fun z hz => nomatch hz) (by decide) (by decide) (hts (.classLink RL 13 "java/lang/UnsupportedOperationException") (List.mem_of_getElem? (i := 1) rfl)) (va_Nw.use rfl (hE.2.2.2.2.1 _ (List.mem_of_getElem? (i := 0) rfl))) hce hcv hcl ?_
      refine lv_astore (lv' := [(4, .ref q9), (0, .ref aX), (1, .int p2), (2, .int p3), (3, .ref aO)]) hx hb dL_move_13 hl (by decide) rfl (fun ls hl => ?_)
      refine lv_iconst (v := (1 : Int32)) hx hb dL_move_15 (by decide) ?_
      exact vx_ret (fin_i (u := ((1 : Int32), (v1.2.2.1, v1.2.2.2.1, v1.2.2.2.2.1, v1.2.2.2.2.2.1, v1.2.2.2.2.2.2.1, v1.2.2.2.2.2.2.2.1, v1.2.2.2.2.2.2.2.2.1, v1.2.2.2.2.2.2.2.2.2.1, v1.2.2.2.2.2.2.2.2.2.2, oL))) hF hx hb hr hlocks hK hP hD hS (Nat.le_of_ble_eq_true rfl) (Nat.le_of_ble_eq_true rfl) dL_move_16)
    have hF := oF c2 hF
    exact nomatch hF
abbrev RM_L_exchange : Room := { frames := 8, cells := 1, slots := 6, locals := 210 }
abbrev MC_L_exchange : Nat := 1
abbrev MS_L_exchange : Nat := 6
abbrev wf_L_exchange (K : Nat → ClassId) (aX : Nat) (aC : Nat) (aCr : Nat) (aR : Nat) (aH : Nat) (aHr : Nat) (aT : Nat) (aL : Nat) (aS : Nat) (aO : Nat) (xS : Int32) (xF : Int32) (v : Int32 × Int32 × Int32 × Int32 × (Nat → Int32) × Int32 × Int32 × Int32 × Int32 × (Nat → Int32) × (Nat → Int64)) : va_W := [(aX, .inr (5, [.ref aC, .ref aR, .ref aH, .ref aT, .ref aL, .ref aS, .int xS, .int xF, .int v.2.1, .int v.2.2.1, .int v.2.2.2.1])), (aC, .inr (0, [.ref aCr])), (aCr, .inl (K 0, 55, .inl v.2.2.2.2.1)), (aR, .inr (4, [.int v.2.2.2.2.2.1, .int v.2.2.2.2.2.2.1])), (aH, .inr (2, [.ref aHr, .int v.2.2.2.2.2.2.2.1, .int v.2.2.2.2.2.2.2.2.1])), (aHr, .inl (K 1, 495, .inl v.2.2.2.2.2.2.2.2.2.1)), (aO, .inl (K 13, 1, .inr (.inl v.2.2.2.2.2.2.2.2.2.2)))]
set_option maxHeartbeats 4000000 in
set_option maxRecDepth 100000 in
theorem c_L_exchange (l : Launch) (hfl : l.stackTraces = false) (D : va_G) (K : Nat → ClassId) (aX : Nat) (aC : Nat) (aCr : Nat) (aR : Nat) (aH : Nat) (aHr : Nat) (aT : Nat) (aL : Nat) (aS : Nat) (aO : Nat) (xS : Int32) (xF : Int32) (xR : Int32) (xD : Int32) (xC : Int32) (row : Nat → Int32) (rR : Int32) (rD : Int32) (kN : Int32) (kK : Int32) (kF : Nat → Int32) (oL : Nat → Int64) (p2 : Int32) (p3 : Int32) (v : Int32 × Int32 × Int32 × Int32 × (Nat → Int32) × Int32 × Int32 × Int32 × Int32 × (Nat → Int32) × (Nat → Int64)) (hF : f_L_exchange xR xD xC row rR rD kN kK kF oL p2 p3 = some v) (sz : Nat) :
    (vx_Met l yL_exchange wsL_exchange RM_L_exchange (PC D (TY K) [(aX, .inr (5, [.ref aC, .ref aR, .ref aH, .ref aT, .ref aL, .ref aS, .int xS, .int xF, .int xR, .int xD, .int xC])), (aC, .inr (0, [.ref aCr])), (aCr, .inl (K 0, 55, .inl row)), (aR, .inr (4, [.int rR, .int rD])), (aH, .inr (2, [.ref aHr, .int kN, .int kK])), (aHr, .inl (K 1, 495, .inl kF)), (aO, .inl (K 13, 1, .inr (.inl oL)))] [.ref aX, .int p2, .int p3, .ref aO] sz) (QI D (TY K) (wf_L_exchange K aX aC aCr aR aH aHr aT aL aS aO xS xF) v (va_A [(aX, .inr (5, [.ref aC, .ref aR, .ref aH, .ref aT, .ref aL, .ref aS, .int xS, .int xF, .int xR, .int xD, .int xC])), (aC, .inr (0, [.ref aCr])), (aCr, .inl (K 0, 55, .inl row)), (aR, .inr (4, [.int rR, .int rD])), (aH, .inr (2, [.ref aHr, .int kN, .int kK])), (aHr, .inl (K 1, 495, .inl kF)), (aO, .inl (K 13, 1, .inr (.inl oL)))] sz)) XN MC_L_exchange MS_L_exchange (va_A [(aX, .inr (5, [.ref aC, .ref aR, .ref aH, .ref aT, .ref aL, .ref aS, .int xS, .int xF, .int xR, .int xD, .int xC])), (aC, .inr (0, [.ref aCr])), (aCr, .inl (K 0, 55, .inl row)), (aR, .inr (4, [.int rR, .int rD])), (aH, .inr (2, [.ref aHr, .int kN, .int kK])), (aHr, .inl (K 1, 495, .inl kF)), (aO, .inl (K 13, 1, .inr (.inl oL)))] sz)) := by
  refine proH (Qf := fun A => QI D (TY K) (wf_L_exchange K aX aC aCr aR aH aHr aT aL aS aO xS xF) v A) (XCf := fun _ => XN) (cc := cL_exchange) (maxL := 5) (ret := (some .int)) (by decide +kernel) rfl (Nat.le_of_ble_eq_true rfl) ?_
  intro p e s m args below meth c hx hb hr hts hown hlocks hml htab hK A hA hE hP hD hS ls hl
  have hown : s.vm.findClass RL = some m.cls := hown
  have hl : lv_has ls 5 [(0, .ref aX), (1, .int p2), (2, .int p3), (3, .ref aO)] := hl
  rw [f_L_exchange] at hF
  refine lv_aload_n hx hb dL_exchange_0 rfl (lv_at hl 3 rfl) ?_
  refine lv_iconst (v := (0 : Int32)) hx hb dL_exchange_1 (by decide) ?_
  refine lv_aload_n hx hb dL_exchange_2 rfl (lv_at hl 0 rfl) ?_
  refine lv_iload_n hx hb dL_exchange_3 rfl (lv_at hl 1 rfl) ?_
  refine lv_iload_n hx hb dL_exchange_4 rfl (lv_at hl 2 rfl) ?_
  obtain ⟨v1, hv1, hF⟩ := oB hF
  refine callX_i (wr := [(aO, .inl (K 13, 1, .inr (.inl oL)))]) (wn := [(aX, .inr (5, [.ref aC, .ref aR, .ref aH, .ref aT, .ref aL, .ref aS, .int xS, .int xF, .int v1.2.2.1, .int v1.2.2.2.1, .int v1.2.2.2.2.1])), (aC, .inr (0, [.ref aCr])), (aCr, .inl (K 0, 55, .inl v1.2.2.2.2.2.1)), (aR, .inr (4, [.int v1.2.2.2.2.2.2.1, .int v1.2.2.2.2.2.2.2.1])), (aH, .inr (2, [.ref aHr, .int v1.2.2.2.2.2.2.2.2.1, .int v1.2.2.2.2.2.2.2.2.2.1])), (aHr, .inl (K 1, 495, .inl v1.2.2.2.2.2.2.2.2.2.2)), (aO, .inl (K 13, 1, .inr (.inl oL)))]) (vx_runV (As := [.int p2, .int p3]) (rest := [.int (0 : Int32), .ref aO]) ⟨hx, hb, hml, hown, hts⟩ (c_X7_exchange l hfl D K aX aC aCr aR aH aHr aT aL aS xS xF xR xD xC row rR rD kN kK kF p2 p3 v1 hv1 s.heap.size) (cwV 2 hts gL_exchange_X7_exchange rfl rfl rfl (by decide +kernel) ⟨(Nat.le_of_ble_eq_true rfl), (Nat.le_of_ble_eq_true rfl)⟩) (prV hE hK hP hD hS hA [0, 1, 2, 3, 4, 5] rfl rfl 5 0 rfl rfl rfl) rfl rfl hl.1 rfl (lv_room (Nat.le_of_ble_eq_true rfl)) dL_exchange_5 ⟨(Nat.le_of_ble_eq_true rfl), (Nat.le_of_ble_eq_true rfl)⟩) hP hD hS hA [0, 1, 2, 3, 4, 5] [6] [1, 2, 3, 4, 5, 6, 0] rfl rfl rfl (by decide) rfl rfl (fun hzv1 H locs hP hD hS => ?_) (fun hzv1 q9 ce H locs hP hD hS hce hcv hcl => ?_)
  · have hF := oT hzv1 hF
    refine lv_i2l (v := v1.2.1.toInt64) hx hb dL_exchange_8 rfl ?_
    refine va_last hx hb hK hP hD hS 6 13 rfl rfl (inB_in (by decide : inB (0 : Int32) 1 = true)) dL_exchange_9 (fun H locs hP hD hS => ?_)
    have hP : va_P D vwC7 [(aX, .inr (5, [.ref aC, .ref aR, .ref aH, .ref aT, .ref aL, .ref aS, .int xS, .int xF, .int v1.2.2.1, .int v1.2.2.2.1, .int v1.2.2.2.2.1])), (aC, .inr (0, [.ref aCr])), (aCr, .inl (K 0, 55, .inl v1.2.2.2.2.2.1)), (aR, .inr (4, [.int v1.2.2.2.2.2.2.1, .int v1.2.2.2.2.2.2.2.1])), (aH, .inr (2, [.ref aHr, .int v1.2.2.2.2.2.2.2.2.1, .int v1.2.2.2.2.2.2.2.2.2.1])), (aHr, .inl (K 1, 495, .inl v1.2.2.2.2.2.2.2.2.2.2)), (aO, .inl (K 13, 1, .inr (.inl (vp_updL oL (0 : Int32).toNatClampNeg v1.2.1.toInt64))))] H := hP
    have hD : va_D A [(aX, .inr (5, [.ref aC, .ref aR, .ref aH, .ref aT, .ref aL, .ref aS, .int xS, .int xF, .int v1.2.2.1, .int v1.2.2.2.1, .int v1.2.2.2.2.1])), (aC, .inr (0, [.ref aCr])), (aCr, .inl (K 0, 55, .inl v1.2.2.2.2.2.1)), (aR, .inr (4, [.int v1.2.2.2.2.2.2.1, .int v1.2.2.2.2.2.2.2.1])), (aH, .inr (2, [.ref aHr, .int v1.2.2.2.2.2.2.2.2.1, .int v1.2.2.2.2.2.2.2.2.2.1])), (aHr, .inl (K 1, 495, .inl v1.2.2.2.2.2.2.2.2.2.2)), (aO, .inl (K 13, 1, .inr (.inl (vp_updL oL (0 : Int32).toNatClampNeg v1.2.1.toInt64))))] := hD
    refine lv_goto (tgt := 17) hx hb dL_exchange_10 (by decide) ?_
    refine lv_iconst (v := (0 : Int32)) hx hb dL_exchange_17 (by decide) ?_
    exact vx_ret (fin_i (u := ((0 : Int32), (v1.2.2.1, v1.2.2.2.1, v1.2.2.2.2.1, v1.2.2.2.2.2.1, v1.2.2.2.2.2.2.1, v1.2.2.2.2.2.2.2.1, v1.2.2.2.2.2.2.2.2.1, v1.2.2.2.2.2.2.2.2.2.1, v1.2.2.2.2.2.2.2.2.2.2, vp_updL oL (0 : Int32).toNatClampNeg v1.2.1.toInt64))) hF hx hb hr hlocks hK hP hD hS (Nat.le_of_ble_eq_true rfl) (Nat.le_of_ble_eq_true rfl) dL_exchange_18)
  · have hF := oF hzv1 hF
    by_cases c2 : v1.1 = 6
    · have hF := oT c2 hF
      rw [c2] at hcl
      refine vx_catch (E := "java/lang/UnsupportedOperationException") (name := "java/lang/UnsupportedOperationException") hown [] ⟨0, 10, 13, 13⟩ [] (htab.trans rfl) (fun z hz => nomatch hz) (by decide) (by decide) (hts (.classLink RL 13 "java/lang/UnsupportedOperationException") (List.mem_of_getElem? (i := 1) rfl)) (va_Nw.use rfl (hE.2.2.2.2.1 _ (List.mem_of_getElem? (i := 0) rfl))) hce hcv hcl ?_
      refine lv_astore (lv' := [(4, .ref q9), (0, .ref aX), (1, .int p2), (2, .int p3), (3, .ref aO)]) hx hb dL_exchange_13 hl (by decide) rfl (fun ls hl => ?_)
      refine lv_iconst (v := (1 : Int32)) hx hb dL_exchange_15 (by decide) ?_
      exact vx_ret (fin_i (u := ((1 : Int32), (v1.2.2.1, v1.2.2.2.1, v1.2.2.2.2.1, v1.2.2.2.2.2.1, v1.2.2.2.2.2.2.1, v1.2.2.2.2.2.2.2.1, v1.2.2.2.2.2.2.2.2.1, v1.2.2.2.2.2.2.2.2.2.1, v1.2.2.2.2.2.2.2.2.2.2, oL))) hF hx hb hr hlocks hK hP hD hS (Nat.le_of_ble_eq_true rfl) (Nat.le_of_ble_eq_true rfl) dL_exchange_16)
    have hF := oF c2 hF
    exact nomatch hF
abbrev RM_L_wager : Room := { frames := 8, cells := 1, slots := 6, locals := 211 }
abbrev MC_L_wager : Nat := 1
abbrev MS_L_wager : Nat := 6
abbrev wf_L_wager (K : Nat → ClassId) (aX : Nat) (aC : Nat) (aCr : Nat) (aR : Nat) (aH : Nat) (aHr : Nat) (aT : Nat) (aL : Nat) (aS : Nat) (aO : Nat) (xS : Int32) (xF : Int32) (v : Int32 × Int32 × Int32 × Int32 × (Nat → Int32) × Int32 × Int32 × Int32 × Int32 × (Nat → Int32) × (Nat → Int64)) : va_W := [(aX, .inr (5, [.ref aC, .ref aR, .ref aH, .ref aT, .ref aL, .ref aS, .int xS, .int xF, .int v.2.1, .int v.2.2.1, .int v.2.2.2.1])), (aC, .inr (0, [.ref aCr])), (aCr, .inl (K 0, 55, .inl v.2.2.2.2.1)), (aR, .inr (4, [.int v.2.2.2.2.2.1, .int v.2.2.2.2.2.2.1])), (aH, .inr (2, [.ref aHr, .int v.2.2.2.2.2.2.2.1, .int v.2.2.2.2.2.2.2.2.1])), (aHr, .inl (K 1, 495, .inl v.2.2.2.2.2.2.2.2.2.1)), (aO, .inl (K 13, 1, .inr (.inl v.2.2.2.2.2.2.2.2.2.2)))]
set_option maxHeartbeats 4000000 in
set_option maxRecDepth 100000 in
theorem c_L_wager (l : Launch) (hfl : l.stackTraces = false) (D : va_G) (K : Nat → ClassId) (aX : Nat) (aC : Nat) (aCr : Nat) (aR : Nat) (aH : Nat) (aHr : Nat) (aT : Nat) (aL : Nat) (aS : Nat) (aO : Nat) (xS : Int32) (xF : Int32) (xR : Int32) (xD : Int32) (xC : Int32) (row : Nat → Int32) (rR : Int32) (rD : Int32) (kN : Int32) (kK : Int32) (kF : Nat → Int32) (oL : Nat → Int64) (p2 : Int32) (p3 : Int32) (p4 : Int32) (v : Int32 × Int32 × Int32 × Int32 × (Nat → Int32) × Int32 × Int32 × Int32 × Int32 × (Nat → Int32) × (Nat → Int64)) (hF : f_L_wager xR xD xC row rR rD kN kK kF oL p2 p3 p4 = some v) (sz : Nat) :
    (vx_Met l yL_wager wsL_wager RM_L_wager (PC D (TY K) [(aX, .inr (5, [.ref aC, .ref aR, .ref aH, .ref aT, .ref aL, .ref aS, .int xS, .int xF, .int xR, .int xD, .int xC])), (aC, .inr (0, [.ref aCr])), (aCr, .inl (K 0, 55, .inl row)), (aR, .inr (4, [.int rR, .int rD])), (aH, .inr (2, [.ref aHr, .int kN, .int kK])), (aHr, .inl (K 1, 495, .inl kF)), (aO, .inl (K 13, 1, .inr (.inl oL)))] [.ref aX, .int p2, .int p3, .int p4, .ref aO] sz) (QI D (TY K) (wf_L_wager K aX aC aCr aR aH aHr aT aL aS aO xS xF) v (va_A [(aX, .inr (5, [.ref aC, .ref aR, .ref aH, .ref aT, .ref aL, .ref aS, .int xS, .int xF, .int xR, .int xD, .int xC])), (aC, .inr (0, [.ref aCr])), (aCr, .inl (K 0, 55, .inl row)), (aR, .inr (4, [.int rR, .int rD])), (aH, .inr (2, [.ref aHr, .int kN, .int kK])), (aHr, .inl (K 1, 495, .inl kF)), (aO, .inl (K 13, 1, .inr (.inl oL)))] sz)) XN MC_L_wager MS_L_wager (va_A [(aX, .inr (5, [.ref aC, .ref aR, .ref aH, .ref aT, .ref aL, .ref aS, .int xS, .int xF, .int xR, .int xD, .int xC])), (aC, .inr (0, [.ref aCr])), (aCr, .inl (K 0, 55, .inl row)), (aR, .inr (4, [.int rR, .int rD])), (aH, .inr (2, [.ref aHr, .int kN, .int kK])), (aHr, .inl (K 1, 495, .inl kF)), (aO, .inl (K 13, 1, .inr (.inl oL)))] sz)) := by
  refine proH (Qf := fun A => QI D (TY K) (wf_L_wager K aX aC aCr aR aH aHr aT aL aS aO xS xF) v A) (XCf := fun _ => XN) (cc := cL_wager) (maxL := 6) (ret := (some .int)) (by decide +kernel) rfl (Nat.le_of_ble_eq_true rfl) ?_
  intro p e s m args below meth c hx hb hr hts hown hlocks hml htab hK A hA hE hP hD hS ls hl
  have hown : s.vm.findClass RL = some m.cls := hown
  have hl : lv_has ls 6 [(0, .ref aX), (1, .int p2), (2, .int p3), (3, .int p4), (4, .ref aO)] := hl
  rw [f_L_wager] at hF
  refine lv_aload hx hb dL_wager_0 (lv_at hl 4 rfl) ?_
  refine lv_iconst (v := (0 : Int32)) hx hb dL_wager_2 (by decide) ?_
  refine lv_aload_n hx hb dL_wager_3 rfl (lv_at hl 0 rfl) ?_
  refine lv_iload_n hx hb dL_wager_4 rfl (lv_at hl 1 rfl) ?_
  refine lv_iload_n hx hb dL_wager_5 rfl (lv_at hl 2 rfl) ?_
  refine lv_iload_n hx hb dL_wager_6 rfl (lv_at hl 3 rfl) ?_
  obtain ⟨v1, hv1, hF⟩ := oB hF
  refine callX_i (wr := [(aO, .inl (K 13, 1, .inr (.inl oL)))]) (wn := [(aX, .inr (5, [.ref aC, .ref aR, .ref aH, .ref aT, .ref aL, .ref aS, .int xS, .int xF, .int v1.2.2.1, .int v1.2.2.2.1, .int v1.2.2.2.2.1])), (aC, .inr (0, [.ref aCr])), (aCr, .inl (K 0, 55, .inl v1.2.2.2.2.2.1)), (aR, .inr (4, [.int v1.2.2.2.2.2.2.1, .int v1.2.2.2.2.2.2.2.1])), (aH, .inr (2, [.ref aHr, .int v1.2.2.2.2.2.2.2.2.1, .int v1.2.2.2.2.2.2.2.2.2.1])), (aHr, .inl (K 1, 495, .inl v1.2.2.2.2.2.2.2.2.2.2)), (aO, .inl (K 13, 1, .inr (.inl oL)))]) (vx_runV (As := [.int p2, .int p3, .int p4]) (rest := [.int (0 : Int32), .ref aO]) ⟨hx, hb, hml, hown, hts⟩ (c_X7_wager l hfl D K aX aC aCr aR aH aHr aT aL aS xS xF xR xD xC row rR rD kN kK kF p2 p3 p4 v1 hv1 s.heap.size) (cwV 3 hts gL_wager_X7_wager rfl rfl rfl (by decide +kernel) ⟨(Nat.le_of_ble_eq_true rfl), (Nat.le_of_ble_eq_true rfl)⟩) (prV hE hK hP hD hS hA [0, 1, 2, 3, 4, 5] rfl rfl 5 0 rfl rfl rfl) rfl rfl hl.1 rfl (lv_room (Nat.le_of_ble_eq_true rfl)) dL_wager_7 ⟨(Nat.le_of_ble_eq_true rfl), (Nat.le_of_ble_eq_true rfl)⟩) hP hD hS hA [0, 1, 2, 3, 4, 5] [6] [1, 2, 3, 4, 5, 6, 0] rfl rfl rfl (by decide) rfl rfl (fun hzv1 H locs hP hD hS => ?_) (fun hzv1 q9 ce H locs hP hD hS hce hcv hcl => ?_)
  · have hF := oT hzv1 hF
    refine lv_i2l (v := v1.2.1.toInt64) hx hb dL_wager_10 rfl ?_
    refine va_last hx hb hK hP hD hS 6 13 rfl rfl (inB_in (by decide : inB (0 : Int32) 1 = true)) dL_wager_11 (fun H locs hP hD hS => ?_)
    have hP : va_P D vwC7 [(aX, .inr (5, [.ref aC, .ref aR, .ref aH, .ref aT, .ref aL, .ref aS, .int xS, .int xF, .int v1.2.2.1, .int v1.2.2.2.1, .int v1.2.2.2.2.1])), (aC, .inr (0, [.ref aCr])), (aCr, .inl (K 0, 55, .inl v1.2.2.2.2.2.1)), (aR, .inr (4, [.int v1.2.2.2.2.2.2.1, .int v1.2.2.2.2.2.2.2.1])), (aH, .inr (2, [.ref aHr, .int v1.2.2.2.2.2.2.2.2.1, .int v1.2.2.2.2.2.2.2.2.2.1])), (aHr, .inl (K 1, 495, .inl v1.2.2.2.2.2.2.2.2.2.2)), (aO, .inl (K 13, 1, .inr (.inl (vp_updL oL (0 : Int32).toNatClampNeg v1.2.1.toInt64))))] H := hP
    have hD : va_D A [(aX, .inr (5, [.ref aC, .ref aR, .ref aH, .ref aT, .ref aL, .ref aS, .int xS, .int xF, .int v1.2.2.1, .int v1.2.2.2.1, .int v1.2.2.2.2.1])), (aC, .inr (0, [.ref aCr])), (aCr, .inl (K 0, 55, .inl v1.2.2.2.2.2.1)), (aR, .inr (4, [.int v1.2.2.2.2.2.2.1, .int v1.2.2.2.2.2.2.2.1])), (aH, .inr (2, [.ref aHr, .int v1.2.2.2.2.2.2.2.2.1, .int v1.2.2.2.2.2.2.2.2.2.1])), (aHr, .inl (K 1, 495, .inl v1.2.2.2.2.2.2.2.2.2.2)), (aO, .inl (K 13, 1, .inr (.inl (vp_updL oL (0 : Int32).toNatClampNeg v1.2.1.toInt64))))] := hD
    refine lv_goto (tgt := 19) hx hb dL_wager_12 (by decide) ?_
    refine lv_iconst (v := (0 : Int32)) hx hb dL_wager_19 (by decide) ?_
    exact vx_ret (fin_i (u := ((0 : Int32), (v1.2.2.1, v1.2.2.2.1, v1.2.2.2.2.1, v1.2.2.2.2.2.1, v1.2.2.2.2.2.2.1, v1.2.2.2.2.2.2.2.1, v1.2.2.2.2.2.2.2.2.1, v1.2.2.2.2.2.2.2.2.2.1, v1.2.2.2.2.2.2.2.2.2.2, vp_updL oL (0 : Int32).toNatClampNeg v1.2.1.toInt64))) hF hx hb hr hlocks hK hP hD hS (Nat.le_of_ble_eq_true rfl) (Nat.le_of_ble_eq_true rfl) dL_wager_20)
  · have hF := oF hzv1 hF
    by_cases c2 : v1.1 = 6
    · have hF := oT c2 hF
      rw [c2] at hcl
      refine vx_catch (E := "java/lang/UnsupportedOperationException") (name := "java/lang/UnsupportedOperationException") hown [] ⟨0, 12, 15, 13⟩ [] (htab.trans rfl) (fun z hz => nomatch hz) (by decide) (by decide) (hts (.classLink RL 13 "java/lang/UnsupportedOperationException") (List.mem_of_getElem? (i := 1) rfl)) (va_Nw.use rfl (hE.2.2.2.2.1 _ (List.mem_of_getElem? (i := 0) rfl))) hce hcv hcl ?_
      refine lv_astore (lv' := [(5, .ref q9), (0, .ref aX), (1, .int p2), (2, .int p3), (3, .int p4), (4, .ref aO)]) hx hb dL_wager_15 hl (by decide) rfl (fun ls hl => ?_)
      refine lv_iconst (v := (1 : Int32)) hx hb dL_wager_17 (by decide) ?_
      exact vx_ret (fin_i (u := ((1 : Int32), (v1.2.2.1, v1.2.2.2.1, v1.2.2.2.2.1, v1.2.2.2.2.2.1, v1.2.2.2.2.2.2.1, v1.2.2.2.2.2.2.2.1, v1.2.2.2.2.2.2.2.2.1, v1.2.2.2.2.2.2.2.2.2.1, v1.2.2.2.2.2.2.2.2.2.2, oL))) hF hx hb hr hlocks hK hP hD hS (Nat.le_of_ble_eq_true rfl) (Nat.le_of_ble_eq_true rfl) dL_wager_18)
    have hF := oF c2 hF
    exact nomatch hF
abbrev RM_L_tap : Room := { frames := 8, cells := 1, slots := 6, locals := 209 }
abbrev MC_L_tap : Nat := 1
abbrev MS_L_tap : Nat := 6
abbrev wf_L_tap (K : Nat → ClassId) (aX : Nat) (aC : Nat) (aCr : Nat) (aR : Nat) (aH : Nat) (aHr : Nat) (aT : Nat) (aL : Nat) (aS : Nat) (aO : Nat) (xS : Int32) (xF : Int32) (v : Int32 × Int32 × Int32 × Int32 × (Nat → Int32) × Int32 × Int32 × Int32 × Int32 × (Nat → Int32) × (Nat → Int64)) : va_W := [(aX, .inr (5, [.ref aC, .ref aR, .ref aH, .ref aT, .ref aL, .ref aS, .int xS, .int xF, .int v.2.1, .int v.2.2.1, .int v.2.2.2.1])), (aC, .inr (0, [.ref aCr])), (aCr, .inl (K 0, 55, .inl v.2.2.2.2.1)), (aR, .inr (4, [.int v.2.2.2.2.2.1, .int v.2.2.2.2.2.2.1])), (aH, .inr (2, [.ref aHr, .int v.2.2.2.2.2.2.2.1, .int v.2.2.2.2.2.2.2.2.1])), (aHr, .inl (K 1, 495, .inl v.2.2.2.2.2.2.2.2.2.1)), (aO, .inl (K 13, 1, .inr (.inl v.2.2.2.2.2.2.2.2.2.2)))]
set_option maxHeartbeats 4000000 in
set_option maxRecDepth 100000 in
theorem c_L_tap (l : Launch) (hfl : l.stackTraces = false) (D : va_G) (K : Nat → ClassId) (aX : Nat) (aC : Nat) (aCr : Nat) (aR : Nat) (aH : Nat) (aHr : Nat) (aT : Nat) (aL : Nat) (aS : Nat) (aO : Nat) (xS : Int32) (xF : Int32) (xR : Int32) (xD : Int32) (xC : Int32) (row : Nat → Int32) (rR : Int32) (rD : Int32) (kN : Int32) (kK : Int32) (kF : Nat → Int32) (oL : Nat → Int64) (p2 : Int32) (v : Int32 × Int32 × Int32 × Int32 × (Nat → Int32) × Int32 × Int32 × Int32 × Int32 × (Nat → Int32) × (Nat → Int64)) (hF : f_L_tap xR xD xC row rR rD kN kK kF oL p2 = some v) (sz : Nat) :
    (vx_Met l yL_tap wsL_tap RM_L_tap (PC D (TY K) [(aX, .inr (5, [.ref aC, .ref aR, .ref aH, .ref aT, .ref aL, .ref aS, .int xS, .int xF, .int xR, .int xD, .int xC])), (aC, .inr (0, [.ref aCr])), (aCr, .inl (K 0, 55, .inl row)), (aR, .inr (4, [.int rR, .int rD])), (aH, .inr (2, [.ref aHr, .int kN, .int kK])), (aHr, .inl (K 1, 495, .inl kF)), (aO, .inl (K 13, 1, .inr (.inl oL)))] [.ref aX, .int p2, .ref aO] sz) (QI D (TY K) (wf_L_tap K aX aC aCr aR aH aHr aT aL aS aO xS xF) v (va_A [(aX, .inr (5, [.ref aC, .ref aR, .ref aH, .ref aT, .ref aL, .ref aS, .int xS, .int xF, .int xR, .int xD, .int xC])), (aC, .inr (0, [.ref aCr])), (aCr, .inl (K 0, 55, .inl row)), (aR, .inr (4, [.int rR, .int rD])), (aH, .inr (2, [.ref aHr, .int kN, .int kK])), (aHr, .inl (K 1, 495, .inl kF)), (aO, .inl (K 13, 1, .inr (.inl oL)))] sz)) XN MC_L_tap MS_L_tap (va_A [(aX, .inr (5, [.ref aC, .ref aR, .ref aH, .ref aT, .ref aL, .ref aS, .int xS, .int xF, .int xR, .int xD, .int xC])), (aC, .inr (0, [.ref aCr])), (aCr, .inl (K 0, 55, .inl row)), (aR, .inr (4, [.int rR, .int rD])), (aH, .inr (2, [.ref aHr, .int kN, .int kK])), (aHr, .inl (K 1, 495, .inl kF)), (aO, .inl (K 13, 1, .inr (.inl oL)))] sz)) := by
  refine proH (Qf := fun A => QI D (TY K) (wf_L_tap K aX aC aCr aR aH aHr aT aL aS aO xS xF) v A) (XCf := fun _ => XN) (cc := cL_tap) (maxL := 4) (ret := (some .int)) (by decide +kernel) rfl (Nat.le_of_ble_eq_true rfl) ?_
  intro p e s m args below meth c hx hb hr hts hown hlocks hml htab hK A hA hE hP hD hS ls hl
  have hown : s.vm.findClass RL = some m.cls := hown
  have hl : lv_has ls 4 [(0, .ref aX), (1, .int p2), (2, .ref aO)] := hl
  rw [f_L_tap] at hF
  refine lv_aload_n hx hb dL_tap_0 rfl (lv_at hl 2 rfl) ?_
  refine lv_iconst (v := (0 : Int32)) hx hb dL_tap_1 (by decide) ?_
  refine lv_aload_n hx hb dL_tap_2 rfl (lv_at hl 0 rfl) ?_
  refine lv_iload_n hx hb dL_tap_3 rfl (lv_at hl 1 rfl) ?_
  obtain ⟨v1, hv1, hF⟩ := oB hF
  refine callX_i (wr := [(aO, .inl (K 13, 1, .inr (.inl oL)))]) (wn := [(aX, .inr (5, [.ref aC, .ref aR, .ref aH, .ref aT, .ref aL, .ref aS, .int xS, .int xF, .int v1.2.2.1, .int v1.2.2.2.1, .int v1.2.2.2.2.1])), (aC, .inr (0, [.ref aCr])), (aCr, .inl (K 0, 55, .inl v1.2.2.2.2.2.1)), (aR, .inr (4, [.int v1.2.2.2.2.2.2.1, .int v1.2.2.2.2.2.2.2.1])), (aH, .inr (2, [.ref aHr, .int v1.2.2.2.2.2.2.2.2.1, .int v1.2.2.2.2.2.2.2.2.2.1])), (aHr, .inl (K 1, 495, .inl v1.2.2.2.2.2.2.2.2.2.2)), (aO, .inl (K 13, 1, .inr (.inl oL)))]) (vx_runV (As := [.int p2]) (rest := [.int (0 : Int32), .ref aO]) ⟨hx, hb, hml, hown, hts⟩ (c_X7_tap l hfl D K aX aC aCr aR aH aHr aT aL aS xS xF xR xD xC row rR rD kN kK kF p2 v1 hv1 s.heap.size) (cwV 1 hts gL_tap_X7_tap rfl rfl rfl (by decide +kernel) ⟨(Nat.le_of_ble_eq_true rfl), (Nat.le_of_ble_eq_true rfl)⟩) (prV hE hK hP hD hS hA [0, 1, 2, 3, 4, 5] rfl rfl 5 0 rfl rfl rfl) rfl rfl hl.1 rfl (lv_room (Nat.le_of_ble_eq_true rfl)) dL_tap_4 ⟨(Nat.le_of_ble_eq_true rfl), (Nat.le_of_ble_eq_true rfl)⟩) hP hD hS hA [0, 1, 2, 3, 4, 5] [6] [1, 2, 3, 4, 5, 6, 0] rfl rfl rfl (by decide) rfl rfl (fun hzv1 H locs hP hD hS => ?_) (fun hzv1 q9 ce H locs hP hD hS hce hcv hcl => ?_)
  · have hF := oT hzv1 hF
    refine lv_i2l (v := v1.2.1.toInt64) hx hb dL_tap_7 rfl ?_
    refine va_last hx hb hK hP hD hS 6 13 rfl rfl (inB_in (by decide : inB (0 : Int32) 1 = true)) dL_tap_8 (fun H locs hP hD hS => ?_)
    have hP : va_P D vwC7 [(aX, .inr (5, [.ref aC, .ref aR, .ref aH, .ref aT, .ref aL, .ref aS, .int xS, .int xF, .int v1.2.2.1, .int v1.2.2.2.1, .int v1.2.2.2.2.1])), (aC, .inr (0, [.ref aCr])), (aCr, .inl (K 0, 55, .inl v1.2.2.2.2.2.1)), (aR, .inr (4, [.int v1.2.2.2.2.2.2.1, .int v1.2.2.2.2.2.2.2.1])), (aH, .inr (2, [.ref aHr, .int v1.2.2.2.2.2.2.2.2.1, .int v1.2.2.2.2.2.2.2.2.2.1])), (aHr, .inl (K 1, 495, .inl v1.2.2.2.2.2.2.2.2.2.2)), (aO, .inl (K 13, 1, .inr (.inl (vp_updL oL (0 : Int32).toNatClampNeg v1.2.1.toInt64))))] H := hP
    have hD : va_D A [(aX, .inr (5, [.ref aC, .ref aR, .ref aH, .ref aT, .ref aL, .ref aS, .int xS, .int xF, .int v1.2.2.1, .int v1.2.2.2.1, .int v1.2.2.2.2.1])), (aC, .inr (0, [.ref aCr])), (aCr, .inl (K 0, 55, .inl v1.2.2.2.2.2.1)), (aR, .inr (4, [.int v1.2.2.2.2.2.2.1, .int v1.2.2.2.2.2.2.2.1])), (aH, .inr (2, [.ref aHr, .int v1.2.2.2.2.2.2.2.2.1, .int v1.2.2.2.2.2.2.2.2.2.1])), (aHr, .inl (K 1, 495, .inl v1.2.2.2.2.2.2.2.2.2.2)), (aO, .inl (K 13, 1, .inr (.inl (vp_updL oL (0 : Int32).toNatClampNeg v1.2.1.toInt64))))] := hD
    refine lv_goto (tgt := 15) hx hb dL_tap_9 (by decide) ?_
    refine lv_iconst (v := (0 : Int32)) hx hb dL_tap_15 (by decide) ?_
    exact vx_ret (fin_i (u := ((0 : Int32), (v1.2.2.1, v1.2.2.2.1, v1.2.2.2.2.1, v1.2.2.2.2.2.1, v1.2.2.2.2.2.2.1, v1.2.2.2.2.2.2.2.1, v1.2.2.2.2.2.2.2.2.1, v1.2.2.2.2.2.2.2.2.2.1, v1.2.2.2.2.2.2.2.2.2.2, vp_updL oL (0 : Int32).toNatClampNeg v1.2.1.toInt64))) hF hx hb hr hlocks hK hP hD hS (Nat.le_of_ble_eq_true rfl) (Nat.le_of_ble_eq_true rfl) dL_tap_16)
  · have hF := oF hzv1 hF
    by_cases c2 : v1.1 = 6
    · have hF := oT c2 hF
      rw [c2] at hcl
      refine vx_catch (E := "java/lang/UnsupportedOperationException") (name := "java/lang/UnsupportedOperationException") hown [] ⟨0, 9, 12, 13⟩ [] (htab.trans rfl) (fun z hz => nomatch hz) (by decide) (by decide) (hts (.classLink RL 13 "java/lang/UnsupportedOperationException") (List.mem_of_getElem? (i := 1) rfl)) (va_Nw.use rfl (hE.2.2.2.2.1 _ (List.mem_of_getElem? (i := 0) rfl))) hce hcv hcl ?_
      refine lv_astore_n (lv' := [(3, .ref q9), (0, .ref aX), (1, .int p2), (2, .ref aO)]) hx hb dL_tap_12 rfl hl (by decide) rfl (fun ls hl => ?_)
      refine lv_iconst (v := (1 : Int32)) hx hb dL_tap_13 (by decide) ?_
      exact vx_ret (fin_i (u := ((1 : Int32), (v1.2.2.1, v1.2.2.2.1, v1.2.2.2.2.1, v1.2.2.2.2.2.1, v1.2.2.2.2.2.2.1, v1.2.2.2.2.2.2.2.1, v1.2.2.2.2.2.2.2.2.1, v1.2.2.2.2.2.2.2.2.2.1, v1.2.2.2.2.2.2.2.2.2.2, oL))) hF hx hb hr hlocks hK hP hD hS (Nat.le_of_ble_eq_true rfl) (Nat.le_of_ble_eq_true rfl) dL_tap_14)
    have hF := oF c2 hF
    exact nomatch hF
abbrev RM_L_day : Room := { frames := 8, cells := 1, slots := 6, locals := 209 }
abbrev MC_L_day : Nat := 1
abbrev MS_L_day : Nat := 6
abbrev wf_L_day (K : Nat → ClassId) (aX : Nat) (aC : Nat) (aCr : Nat) (aR : Nat) (aH : Nat) (aHr : Nat) (aT : Nat) (aL : Nat) (aS : Nat) (aO : Nat) (xS : Int32) (xF : Int32) (v : Int32 × Int32 × Int32 × Int32 × (Nat → Int32) × Int32 × Int32 × Int32 × Int32 × (Nat → Int32) × (Nat → Int64)) : va_W := [(aX, .inr (5, [.ref aC, .ref aR, .ref aH, .ref aT, .ref aL, .ref aS, .int xS, .int xF, .int v.2.1, .int v.2.2.1, .int v.2.2.2.1])), (aC, .inr (0, [.ref aCr])), (aCr, .inl (K 0, 55, .inl v.2.2.2.2.1)), (aR, .inr (4, [.int v.2.2.2.2.2.1, .int v.2.2.2.2.2.2.1])), (aH, .inr (2, [.ref aHr, .int v.2.2.2.2.2.2.2.1, .int v.2.2.2.2.2.2.2.2.1])), (aHr, .inl (K 1, 495, .inl v.2.2.2.2.2.2.2.2.2.1)), (aO, .inl (K 13, 1, .inr (.inl v.2.2.2.2.2.2.2.2.2.2)))]
set_option maxHeartbeats 4000000 in
set_option maxRecDepth 100000 in
theorem c_L_day (l : Launch) (hfl : l.stackTraces = false) (D : va_G) (K : Nat → ClassId) (aX : Nat) (aC : Nat) (aCr : Nat) (aR : Nat) (aH : Nat) (aHr : Nat) (aT : Nat) (aL : Nat) (aS : Nat) (aO : Nat) (xS : Int32) (xF : Int32) (xR : Int32) (xD : Int32) (xC : Int32) (row : Nat → Int32) (rR : Int32) (rD : Int32) (kN : Int32) (kK : Int32) (kF : Nat → Int32) (oL : Nat → Int64) (p2 : Int32) (v : Int32 × Int32 × Int32 × Int32 × (Nat → Int32) × Int32 × Int32 × Int32 × Int32 × (Nat → Int32) × (Nat → Int64)) (hF : f_L_day xR xD xC row rR rD kN kK kF oL p2 = some v) (sz : Nat) :
    (vx_Met l yL_day wsL_day RM_L_day (PC D (TY K) [(aX, .inr (5, [.ref aC, .ref aR, .ref aH, .ref aT, .ref aL, .ref aS, .int xS, .int xF, .int xR, .int xD, .int xC])), (aC, .inr (0, [.ref aCr])), (aCr, .inl (K 0, 55, .inl row)), (aR, .inr (4, [.int rR, .int rD])), (aH, .inr (2, [.ref aHr, .int kN, .int kK])), (aHr, .inl (K 1, 495, .inl kF)), (aO, .inl (K 13, 1, .inr (.inl oL)))] [.ref aX, .int p2, .ref aO] sz) (QI D (TY K) (wf_L_day K aX aC aCr aR aH aHr aT aL aS aO xS xF) v (va_A [(aX, .inr (5, [.ref aC, .ref aR, .ref aH, .ref aT, .ref aL, .ref aS, .int xS, .int xF, .int xR, .int xD, .int xC])), (aC, .inr (0, [.ref aCr])), (aCr, .inl (K 0, 55, .inl row)), (aR, .inr (4, [.int rR, .int rD])), (aH, .inr (2, [.ref aHr, .int kN, .int kK])), (aHr, .inl (K 1, 495, .inl kF)), (aO, .inl (K 13, 1, .inr (.inl oL)))] sz)) XN MC_L_day MS_L_day (va_A [(aX, .inr (5, [.ref aC, .ref aR, .ref aH, .ref aT, .ref aL, .ref aS, .int xS, .int xF, .int xR, .int xD, .int xC])), (aC, .inr (0, [.ref aCr])), (aCr, .inl (K 0, 55, .inl row)), (aR, .inr (4, [.int rR, .int rD])), (aH, .inr (2, [.ref aHr, .int kN, .int kK])), (aHr, .inl (K 1, 495, .inl kF)), (aO, .inl (K 13, 1, .inr (.inl oL)))] sz)) := by
  refine proH (Qf := fun A => QI D (TY K) (wf_L_day K aX aC aCr aR aH aHr aT aL aS aO xS xF) v A) (XCf := fun _ => XN) (cc := cL_day) (maxL := 4) (ret := (some .int)) (by decide +kernel) rfl (Nat.le_of_ble_eq_true rfl) ?_
  intro p e s m args below meth c hx hb hr hts hown hlocks hml htab hK A hA hE hP hD hS ls hl
  have hown : s.vm.findClass RL = some m.cls := hown
  have hl : lv_has ls 4 [(0, .ref aX), (1, .int p2), (2, .ref aO)] := hl
  rw [f_L_day] at hF
  refine lv_aload_n hx hb dL_day_0 rfl (lv_at hl 2 rfl) ?_
  refine lv_iconst (v := (0 : Int32)) hx hb dL_day_1 (by decide) ?_
  refine lv_aload_n hx hb dL_day_2 rfl (lv_at hl 0 rfl) ?_
  refine lv_iload_n hx hb dL_day_3 rfl (lv_at hl 1 rfl) ?_
  obtain ⟨v1, hv1, hF⟩ := oB hF
  refine callX_i (wr := [(aO, .inl (K 13, 1, .inr (.inl oL)))]) (wn := [(aX, .inr (5, [.ref aC, .ref aR, .ref aH, .ref aT, .ref aL, .ref aS, .int xS, .int xF, .int v1.2.2.1, .int v1.2.2.2.1, .int v1.2.2.2.2.1])), (aC, .inr (0, [.ref aCr])), (aCr, .inl (K 0, 55, .inl v1.2.2.2.2.2.1)), (aR, .inr (4, [.int v1.2.2.2.2.2.2.1, .int v1.2.2.2.2.2.2.2.1])), (aH, .inr (2, [.ref aHr, .int v1.2.2.2.2.2.2.2.2.1, .int v1.2.2.2.2.2.2.2.2.2.1])), (aHr, .inl (K 1, 495, .inl v1.2.2.2.2.2.2.2.2.2.2)), (aO, .inl (K 13, 1, .inr (.inl oL)))]) (vx_runV (As := [.int p2]) (rest := [.int (0 : Int32), .ref aO]) ⟨hx, hb, hml, hown, hts⟩ (c_X7_day l hfl D K aX aC aCr aR aH aHr aT aL aS xS xF xR xD xC row rR rD kN kK kF p2 v1 hv1 s.heap.size) (cwV 1 hts gL_day_X7_day rfl rfl rfl (by decide +kernel) ⟨(Nat.le_of_ble_eq_true rfl), (Nat.le_of_ble_eq_true rfl)⟩) (prV hE hK hP hD hS hA [0, 1, 2, 3, 4, 5] rfl rfl 5 0 rfl rfl rfl) rfl rfl hl.1 rfl (lv_room (Nat.le_of_ble_eq_true rfl)) dL_day_4 ⟨(Nat.le_of_ble_eq_true rfl), (Nat.le_of_ble_eq_true rfl)⟩) hP hD hS hA [0, 1, 2, 3, 4, 5] [6] [1, 2, 3, 4, 5, 6, 0] rfl rfl rfl (by decide) rfl rfl (fun hzv1 H locs hP hD hS => ?_) (fun hzv1 q9 ce H locs hP hD hS hce hcv hcl => ?_)
  · have hF := oT hzv1 hF
    refine lv_i2l (v := v1.2.1.toInt64) hx hb dL_day_7 rfl ?_
    refine va_last hx hb hK hP hD hS 6 13 rfl rfl (inB_in (by decide : inB (0 : Int32) 1 = true)) dL_day_8 (fun H locs hP hD hS => ?_)
    have hP : va_P D vwC7 [(aX, .inr (5, [.ref aC, .ref aR, .ref aH, .ref aT, .ref aL, .ref aS, .int xS, .int xF, .int v1.2.2.1, .int v1.2.2.2.1, .int v1.2.2.2.2.1])), (aC, .inr (0, [.ref aCr])), (aCr, .inl (K 0, 55, .inl v1.2.2.2.2.2.1)), (aR, .inr (4, [.int v1.2.2.2.2.2.2.1, .int v1.2.2.2.2.2.2.2.1])), (aH, .inr (2, [.ref aHr, .int v1.2.2.2.2.2.2.2.2.1, .int v1.2.2.2.2.2.2.2.2.2.1])), (aHr, .inl (K 1, 495, .inl v1.2.2.2.2.2.2.2.2.2.2)), (aO, .inl (K 13, 1, .inr (.inl (vp_updL oL (0 : Int32).toNatClampNeg v1.2.1.toInt64))))] H := hP
    have hD : va_D A [(aX, .inr (5, [.ref aC, .ref aR, .ref aH, .ref aT, .ref aL, .ref aS, .int xS, .int xF, .int v1.2.2.1, .int v1.2.2.2.1, .int v1.2.2.2.2.1])), (aC, .inr (0, [.ref aCr])), (aCr, .inl (K 0, 55, .inl v1.2.2.2.2.2.1)), (aR, .inr (4, [.int v1.2.2.2.2.2.2.1, .int v1.2.2.2.2.2.2.2.1])), (aH, .inr (2, [.ref aHr, .int v1.2.2.2.2.2.2.2.2.1, .int v1.2.2.2.2.2.2.2.2.2.1])), (aHr, .inl (K 1, 495, .inl v1.2.2.2.2.2.2.2.2.2.2)), (aO, .inl (K 13, 1, .inr (.inl (vp_updL oL (0 : Int32).toNatClampNeg v1.2.1.toInt64))))] := hD
    refine lv_goto (tgt := 15) hx hb dL_day_9 (by decide) ?_
    refine lv_iconst (v := (0 : Int32)) hx hb dL_day_15 (by decide) ?_
    exact vx_ret (fin_i (u := ((0 : Int32), (v1.2.2.1, v1.2.2.2.1, v1.2.2.2.2.1, v1.2.2.2.2.2.1, v1.2.2.2.2.2.2.1, v1.2.2.2.2.2.2.2.1, v1.2.2.2.2.2.2.2.2.1, v1.2.2.2.2.2.2.2.2.2.1, v1.2.2.2.2.2.2.2.2.2.2, vp_updL oL (0 : Int32).toNatClampNeg v1.2.1.toInt64))) hF hx hb hr hlocks hK hP hD hS (Nat.le_of_ble_eq_true rfl) (Nat.le_of_ble_eq_true rfl) dL_day_16)
  · have hF := oF hzv1 hF
    by_cases c2 : v1.1 = 6
    · have hF := oT c2 hF
      rw [c2] at hcl
      refine vx_catch (E := "java/lang/UnsupportedOperationException") (name := "java/lang/UnsupportedOperationException") hown [] ⟨0, 9, 12, 13⟩ [] (htab.trans rfl) (fun z hz => nomatch hz) (by decide) (by decide) (hts (.classLink RL 13 "java/lang/UnsupportedOperationException") (List.mem_of_getElem? (i := 1) rfl)) (va_Nw.use rfl (hE.2.2.2.2.1 _ (List.mem_of_getElem? (i := 0) rfl))) hce hcv hcl ?_
      refine lv_astore_n (lv' := [(3, .ref q9), (0, .ref aX), (1, .int p2), (2, .ref aO)]) hx hb dL_day_12 rfl hl (by decide) rfl (fun ls hl => ?_)
      refine lv_iconst (v := (1 : Int32)) hx hb dL_day_13 (by decide) ?_
      exact vx_ret (fin_i (u := ((1 : Int32), (v1.2.2.1, v1.2.2.2.1, v1.2.2.2.2.1, v1.2.2.2.2.2.1, v1.2.2.2.2.2.2.1, v1.2.2.2.2.2.2.2.1, v1.2.2.2.2.2.2.2.2.1, v1.2.2.2.2.2.2.2.2.2.1, v1.2.2.2.2.2.2.2.2.2.2, oL))) hF hx hb hr hlocks hK hP hD hS (Nat.le_of_ble_eq_true rfl) (Nat.le_of_ble_eq_true rfl) dL_day_14)
    have hF := oF c2 hF
    exact nomatch hF
abbrev RM_L_bottle : Room := { frames := 8, cells := 1, slots := 6, locals := 209 }
abbrev MC_L_bottle : Nat := 1
abbrev MS_L_bottle : Nat := 6
abbrev wf_L_bottle (K : Nat → ClassId) (aX : Nat) (aC : Nat) (aCr : Nat) (aR : Nat) (aH : Nat) (aHr : Nat) (aT : Nat) (aL : Nat) (aS : Nat) (aO : Nat) (xS : Int32) (xF : Int32) (v : Int32 × Int32 × Int32 × Int32 × (Nat → Int32) × Int32 × Int32 × Int32 × Int32 × (Nat → Int32) × (Nat → Int64)) : va_W := [(aX, .inr (5, [.ref aC, .ref aR, .ref aH, .ref aT, .ref aL, .ref aS, .int xS, .int xF, .int v.2.1, .int v.2.2.1, .int v.2.2.2.1])), (aC, .inr (0, [.ref aCr])), (aCr, .inl (K 0, 55, .inl v.2.2.2.2.1)), (aR, .inr (4, [.int v.2.2.2.2.2.1, .int v.2.2.2.2.2.2.1])), (aH, .inr (2, [.ref aHr, .int v.2.2.2.2.2.2.2.1, .int v.2.2.2.2.2.2.2.2.1])), (aHr, .inl (K 1, 495, .inl v.2.2.2.2.2.2.2.2.2.1)), (aO, .inl (K 13, 1, .inr (.inl v.2.2.2.2.2.2.2.2.2.2)))]
set_option maxHeartbeats 4000000 in
set_option maxRecDepth 100000 in
theorem c_L_bottle (l : Launch) (hfl : l.stackTraces = false) (D : va_G) (K : Nat → ClassId) (aX : Nat) (aC : Nat) (aCr : Nat) (aR : Nat) (aH : Nat) (aHr : Nat) (aT : Nat) (aL : Nat) (aS : Nat) (aO : Nat) (xS : Int32) (xF : Int32) (xR : Int32) (xD : Int32) (xC : Int32) (row : Nat → Int32) (rR : Int32) (rD : Int32) (kN : Int32) (kK : Int32) (kF : Nat → Int32) (oL : Nat → Int64) (p2 : Int32) (v : Int32 × Int32 × Int32 × Int32 × (Nat → Int32) × Int32 × Int32 × Int32 × Int32 × (Nat → Int32) × (Nat → Int64)) (hF : f_L_bottle xR xD xC row rR rD kN kK kF oL p2 = some v) (sz : Nat) :
    (vx_Met l yL_bottle wsL_bottle RM_L_bottle (PC D (TY K) [(aX, .inr (5, [.ref aC, .ref aR, .ref aH, .ref aT, .ref aL, .ref aS, .int xS, .int xF, .int xR, .int xD, .int xC])), (aC, .inr (0, [.ref aCr])), (aCr, .inl (K 0, 55, .inl row)), (aR, .inr (4, [.int rR, .int rD])), (aH, .inr (2, [.ref aHr, .int kN, .int kK])), (aHr, .inl (K 1, 495, .inl kF)), (aO, .inl (K 13, 1, .inr (.inl oL)))] [.ref aX, .int p2, .ref aO] sz) (QI D (TY K) (wf_L_bottle K aX aC aCr aR aH aHr aT aL aS aO xS xF) v (va_A [(aX, .inr (5, [.ref aC, .ref aR, .ref aH, .ref aT, .ref aL, .ref aS, .int xS, .int xF, .int xR, .int xD, .int xC])), (aC, .inr (0, [.ref aCr])), (aCr, .inl (K 0, 55, .inl row)), (aR, .inr (4, [.int rR, .int rD])), (aH, .inr (2, [.ref aHr, .int kN, .int kK])), (aHr, .inl (K 1, 495, .inl kF)), (aO, .inl (K 13, 1, .inr (.inl oL)))] sz)) XN MC_L_bottle MS_L_bottle (va_A [(aX, .inr (5, [.ref aC, .ref aR, .ref aH, .ref aT, .ref aL, .ref aS, .int xS, .int xF, .int xR, .int xD, .int xC])), (aC, .inr (0, [.ref aCr])), (aCr, .inl (K 0, 55, .inl row)), (aR, .inr (4, [.int rR, .int rD])), (aH, .inr (2, [.ref aHr, .int kN, .int kK])), (aHr, .inl (K 1, 495, .inl kF)), (aO, .inl (K 13, 1, .inr (.inl oL)))] sz)) := by
  refine proH (Qf := fun A => QI D (TY K) (wf_L_bottle K aX aC aCr aR aH aHr aT aL aS aO xS xF) v A) (XCf := fun _ => XN) (cc := cL_bottle) (maxL := 4) (ret := (some .int)) (by decide +kernel) rfl (Nat.le_of_ble_eq_true rfl) ?_
  intro p e s m args below meth c hx hb hr hts hown hlocks hml htab hK A hA hE hP hD hS ls hl
  have hown : s.vm.findClass RL = some m.cls := hown
  have hl : lv_has ls 4 [(0, .ref aX), (1, .int p2), (2, .ref aO)] := hl
  rw [f_L_bottle] at hF
  refine lv_aload_n hx hb dL_bottle_0 rfl (lv_at hl 2 rfl) ?_
  refine lv_iconst (v := (0 : Int32)) hx hb dL_bottle_1 (by decide) ?_
  refine lv_aload_n hx hb dL_bottle_2 rfl (lv_at hl 0 rfl) ?_
  refine lv_iload_n hx hb dL_bottle_3 rfl (lv_at hl 1 rfl) ?_
  obtain ⟨v1, hv1, hF⟩ := oB hF
  refine callX_i (wr := [(aO, .inl (K 13, 1, .inr (.inl oL)))]) (wn := [(aX, .inr (5, [.ref aC, .ref aR, .ref aH, .ref aT, .ref aL, .ref aS, .int xS, .int xF, .int v1.2.2.1, .int v1.2.2.2.1, .int v1.2.2.2.2.1])), (aC, .inr (0, [.ref aCr])), (aCr, .inl (K 0, 55, .inl v1.2.2.2.2.2.1)), (aR, .inr (4, [.int v1.2.2.2.2.2.2.1, .int v1.2.2.2.2.2.2.2.1])), (aH, .inr (2, [.ref aHr, .int v1.2.2.2.2.2.2.2.2.1, .int v1.2.2.2.2.2.2.2.2.2.1])), (aHr, .inl (K 1, 495, .inl v1.2.2.2.2.2.2.2.2.2.2)), (aO, .inl (K 13, 1, .inr (.inl oL)))]) (vx_runV (As := [.int p2]) (rest := [.int (0 : Int32), .ref aO]) ⟨hx, hb, hml, hown, hts⟩ (c_X7_bottle l hfl D K aX aC aCr aR aH aHr aT aL aS xS xF xR xD xC row rR rD kN kK kF p2 v1 hv1 s.heap.size) (cwV 1 hts gL_bottle_X7_bottle rfl rfl rfl (by decide +kernel) ⟨(Nat.le_of_ble_eq_true rfl), (Nat.le_of_ble_eq_true rfl)⟩) (prV hE hK hP hD hS hA [0, 1, 2, 3, 4, 5] rfl rfl 5 0 rfl rfl rfl) rfl rfl hl.1 rfl (lv_room (Nat.le_of_ble_eq_true rfl)) dL_bottle_4 ⟨(Nat.le_of_ble_eq_true rfl), (Nat.le_of_ble_eq_true rfl)⟩) hP hD hS hA [0, 1, 2, 3, 4, 5] [6] [1, 2, 3, 4, 5, 6, 0] rfl rfl rfl (by decide) rfl rfl (fun hzv1 H locs hP hD hS => ?_) (fun hzv1 q9 ce H locs hP hD hS hce hcv hcl => ?_)
  · have hF := oT hzv1 hF
    refine lv_i2l (v := v1.2.1.toInt64) hx hb dL_bottle_7 rfl ?_
    refine va_last hx hb hK hP hD hS 6 13 rfl rfl (inB_in (by decide : inB (0 : Int32) 1 = true)) dL_bottle_8 (fun H locs hP hD hS => ?_)
    have hP : va_P D vwC7 [(aX, .inr (5, [.ref aC, .ref aR, .ref aH, .ref aT, .ref aL, .ref aS, .int xS, .int xF, .int v1.2.2.1, .int v1.2.2.2.1, .int v1.2.2.2.2.1])), (aC, .inr (0, [.ref aCr])), (aCr, .inl (K 0, 55, .inl v1.2.2.2.2.2.1)), (aR, .inr (4, [.int v1.2.2.2.2.2.2.1, .int v1.2.2.2.2.2.2.2.1])), (aH, .inr (2, [.ref aHr, .int v1.2.2.2.2.2.2.2.2.1, .int v1.2.2.2.2.2.2.2.2.2.1])), (aHr, .inl (K 1, 495, .inl v1.2.2.2.2.2.2.2.2.2.2)), (aO, .inl (K 13, 1, .inr (.inl (vp_updL oL (0 : Int32).toNatClampNeg v1.2.1.toInt64))))] H := hP
    have hD : va_D A [(aX, .inr (5, [.ref aC, .ref aR, .ref aH, .ref aT, .ref aL, .ref aS, .int xS, .int xF, .int v1.2.2.1, .int v1.2.2.2.1, .int v1.2.2.2.2.1])), (aC, .inr (0, [.ref aCr])), (aCr, .inl (K 0, 55, .inl v1.2.2.2.2.2.1)), (aR, .inr (4, [.int v1.2.2.2.2.2.2.1, .int v1.2.2.2.2.2.2.2.1])), (aH, .inr (2, [.ref aHr, .int v1.2.2.2.2.2.2.2.2.1, .int v1.2.2.2.2.2.2.2.2.2.1])), (aHr, .inl (K 1, 495, .inl v1.2.2.2.2.2.2.2.2.2.2)), (aO, .inl (K 13, 1, .inr (.inl (vp_updL oL (0 : Int32).toNatClampNeg v1.2.1.toInt64))))] := hD
    refine lv_goto (tgt := 15) hx hb dL_bottle_9 (by decide) ?_
    refine lv_iconst (v := (0 : Int32)) hx hb dL_bottle_15 (by decide) ?_
    exact vx_ret (fin_i (u := ((0 : Int32), (v1.2.2.1, v1.2.2.2.1, v1.2.2.2.2.1, v1.2.2.2.2.2.1, v1.2.2.2.2.2.2.1, v1.2.2.2.2.2.2.2.1, v1.2.2.2.2.2.2.2.2.1, v1.2.2.2.2.2.2.2.2.2.1, v1.2.2.2.2.2.2.2.2.2.2, vp_updL oL (0 : Int32).toNatClampNeg v1.2.1.toInt64))) hF hx hb hr hlocks hK hP hD hS (Nat.le_of_ble_eq_true rfl) (Nat.le_of_ble_eq_true rfl) dL_bottle_16)
  · have hF := oF hzv1 hF
    by_cases c2 : v1.1 = 6
    · have hF := oT c2 hF
      rw [c2] at hcl
      refine vx_catch (E := "java/lang/UnsupportedOperationException") (name := "java/lang/UnsupportedOperationException") hown [] ⟨0, 9, 12, 13⟩ [] (htab.trans rfl) (fun z hz => nomatch hz) (by decide) (by decide) (hts (.classLink RL 13 "java/lang/UnsupportedOperationException") (List.mem_of_getElem? (i := 1) rfl)) (va_Nw.use rfl (hE.2.2.2.2.1 _ (List.mem_of_getElem? (i := 0) rfl))) hce hcv hcl ?_
      refine lv_astore_n (lv' := [(3, .ref q9), (0, .ref aX), (1, .int p2), (2, .ref aO)]) hx hb dL_bottle_12 rfl hl (by decide) rfl (fun ls hl => ?_)
      refine lv_iconst (v := (1 : Int32)) hx hb dL_bottle_13 (by decide) ?_
      exact vx_ret (fin_i (u := ((1 : Int32), (v1.2.2.1, v1.2.2.2.1, v1.2.2.2.2.1, v1.2.2.2.2.2.1, v1.2.2.2.2.2.2.1, v1.2.2.2.2.2.2.2.1, v1.2.2.2.2.2.2.2.2.1, v1.2.2.2.2.2.2.2.2.2.1, v1.2.2.2.2.2.2.2.2.2.2, oL))) hF hx hb hr hlocks hK hP hD hS (Nat.le_of_ble_eq_true rfl) (Nat.le_of_ble_eq_true rfl) dL_bottle_14)
    have hF := oF c2 hF
    exact nomatch hF
abbrev RM_L_letOut : Room := { frames := 8, cells := 1, slots := 6, locals := 209 }
abbrev MC_L_letOut : Nat := 1
abbrev MS_L_letOut : Nat := 6
abbrev wf_L_letOut (K : Nat → ClassId) (aX : Nat) (aC : Nat) (aCr : Nat) (aR : Nat) (aH : Nat) (aHr : Nat) (aT : Nat) (aL : Nat) (aS : Nat) (aO : Nat) (xS : Int32) (xF : Int32) (v : Int32 × Int32 × Int32 × Int32 × (Nat → Int32) × Int32 × Int32 × Int32 × Int32 × (Nat → Int32) × (Nat → Int64)) : va_W := [(aX, .inr (5, [.ref aC, .ref aR, .ref aH, .ref aT, .ref aL, .ref aS, .int xS, .int xF, .int v.2.1, .int v.2.2.1, .int v.2.2.2.1])), (aC, .inr (0, [.ref aCr])), (aCr, .inl (K 0, 55, .inl v.2.2.2.2.1)), (aR, .inr (4, [.int v.2.2.2.2.2.1, .int v.2.2.2.2.2.2.1])), (aH, .inr (2, [.ref aHr, .int v.2.2.2.2.2.2.2.1, .int v.2.2.2.2.2.2.2.2.1])), (aHr, .inl (K 1, 495, .inl v.2.2.2.2.2.2.2.2.2.1)), (aO, .inl (K 13, 1, .inr (.inl v.2.2.2.2.2.2.2.2.2.2)))]
set_option maxHeartbeats 4000000 in
set_option maxRecDepth 100000 in
theorem c_L_letOut (l : Launch) (hfl : l.stackTraces = false) (D : va_G) (K : Nat → ClassId) (aX : Nat) (aC : Nat) (aCr : Nat) (aR : Nat) (aH : Nat) (aHr : Nat) (aT : Nat) (aL : Nat) (aS : Nat) (aO : Nat) (xS : Int32) (xF : Int32) (xR : Int32) (xD : Int32) (xC : Int32) (row : Nat → Int32) (rR : Int32) (rD : Int32) (kN : Int32) (kK : Int32) (kF : Nat → Int32) (oL : Nat → Int64) (p2 : Int32) (v : Int32 × Int32 × Int32 × Int32 × (Nat → Int32) × Int32 × Int32 × Int32 × Int32 × (Nat → Int32) × (Nat → Int64)) (hF : f_L_letOut xR xD xC row rR rD kN kK kF oL p2 = some v) (sz : Nat) :
    (vx_Met l yL_letOut wsL_letOut RM_L_letOut (PC D (TY K) [(aX, .inr (5, [.ref aC, .ref aR, .ref aH, .ref aT, .ref aL, .ref aS, .int xS, .int xF, .int xR, .int xD, .int xC])), (aC, .inr (0, [.ref aCr])), (aCr, .inl (K 0, 55, .inl row)), (aR, .inr (4, [.int rR, .int rD])), (aH, .inr (2, [.ref aHr, .int kN, .int kK])), (aHr, .inl (K 1, 495, .inl kF)), (aO, .inl (K 13, 1, .inr (.inl oL)))] [.ref aX, .int p2, .ref aO] sz) (QI D (TY K) (wf_L_letOut K aX aC aCr aR aH aHr aT aL aS aO xS xF) v (va_A [(aX, .inr (5, [.ref aC, .ref aR, .ref aH, .ref aT, .ref aL, .ref aS, .int xS, .int xF, .int xR, .int xD, .int xC])), (aC, .inr (0, [.ref aCr])), (aCr, .inl (K 0, 55, .inl row)), (aR, .inr (4, [.int rR, .int rD])), (aH, .inr (2, [.ref aHr, .int kN, .int kK])), (aHr, .inl (K 1, 495, .inl kF)), (aO, .inl (K 13, 1, .inr (.inl oL)))] sz)) XN MC_L_letOut MS_L_letOut (va_A [(aX, .inr (5, [.ref aC, .ref aR, .ref aH, .ref aT, .ref aL, .ref aS, .int xS, .int xF, .int xR, .int xD, .int xC])), (aC, .inr (0, [.ref aCr])), (aCr, .inl (K 0, 55, .inl row)), (aR, .inr (4, [.int rR, .int rD])), (aH, .inr (2, [.ref aHr, .int kN, .int kK])), (aHr, .inl (K 1, 495, .inl kF)), (aO, .inl (K 13, 1, .inr (.inl oL)))] sz)) := by
  refine proH (Qf := fun A => QI D (TY K) (wf_L_letOut K aX aC aCr aR aH aHr aT aL aS aO xS xF) v A) (XCf := fun _ => XN) (cc := cL_letOut) (maxL := 4) (ret := (some .int)) (by decide +kernel) rfl (Nat.le_of_ble_eq_true rfl) ?_
  intro p e s m args below meth c hx hb hr hts hown hlocks hml htab hK A hA hE hP hD hS ls hl
  have hown : s.vm.findClass RL = some m.cls := hown
  have hl : lv_has ls 4 [(0, .ref aX), (1, .int p2), (2, .ref aO)] := hl
  rw [f_L_letOut] at hF
  refine lv_aload_n hx hb dL_letOut_0 rfl (lv_at hl 2 rfl) ?_
  refine lv_iconst (v := (0 : Int32)) hx hb dL_letOut_1 (by decide) ?_
  refine lv_aload_n hx hb dL_letOut_2 rfl (lv_at hl 0 rfl) ?_
  refine lv_iload_n hx hb dL_letOut_3 rfl (lv_at hl 1 rfl) ?_
  obtain ⟨v1, hv1, hF⟩ := oB hF
  refine callX_i (wr := [(aO, .inl (K 13, 1, .inr (.inl oL)))]) (wn := [(aX, .inr (5, [.ref aC, .ref aR, .ref aH, .ref aT, .ref aL, .ref aS, .int xS, .int xF, .int v1.2.2.1, .int v1.2.2.2.1, .int v1.2.2.2.2.1])), (aC, .inr (0, [.ref aCr])), (aCr, .inl (K 0, 55, .inl v1.2.2.2.2.2.1)), (aR, .inr (4, [.int v1.2.2.2.2.2.2.1, .int v1.2.2.2.2.2.2.2.1])), (aH, .inr (2, [.ref aHr, .int v1.2.2.2.2.2.2.2.2.1, .int v1.2.2.2.2.2.2.2.2.2.1])), (aHr, .inl (K 1, 495, .inl v1.2.2.2.2.2.2.2.2.2.2)), (aO, .inl (K 13, 1, .inr (.inl oL)))]) (vx_runV (As := [.int p2]) (rest := [.int (0 : Int32), .ref aO]) ⟨hx, hb, hml, hown, hts⟩ (c_X7_letOut l hfl D K aX aC aCr aR aH aHr aT aL aS xS xF xR xD xC row rR rD kN kK kF p2 v1 hv1 s.heap.size) (cwV 1 hts gL_letOut_X7_letOut rfl rfl rfl (by decide +kernel) ⟨(Nat.le_of_ble_eq_true rfl), (Nat.le_of_ble_eq_true rfl)⟩) (prV hE hK hP hD hS hA [0, 1, 2, 3, 4, 5] rfl rfl 5 0 rfl rfl rfl) rfl rfl hl.1 rfl (lv_room (Nat.le_of_ble_eq_true rfl)) dL_letOut_4 ⟨(Nat.le_of_ble_eq_true rfl), (Nat.le_of_ble_eq_true rfl)⟩) hP hD hS hA [0, 1, 2, 3, 4, 5] [6] [1, 2, 3, 4, 5, 6, 0] rfl rfl rfl (by decide) rfl rfl (fun hzv1 H locs hP hD hS => ?_) (fun hzv1 q9 ce H locs hP hD hS hce hcv hcl => ?_)
  · have hF := oT hzv1 hF
    refine lv_i2l (v := v1.2.1.toInt64) hx hb dL_letOut_7 rfl ?_
    refine va_last hx hb hK hP hD hS 6 13 rfl rfl (inB_in (by decide : inB (0 : Int32) 1 = true)) dL_letOut_8 (fun H locs hP hD hS => ?_)
    have hP : va_P D vwC7 [(aX, .inr (5, [.ref aC, .ref aR, .ref aH, .ref aT, .ref aL, .ref aS, .int xS, .int xF, .int v1.2.2.1, .int v1.2.2.2.1, .int v1.2.2.2.2.1])), (aC, .inr (0, [.ref aCr])), (aCr, .inl (K 0, 55, .inl v1.2.2.2.2.2.1)), (aR, .inr (4, [.int v1.2.2.2.2.2.2.1, .int v1.2.2.2.2.2.2.2.1])), (aH, .inr (2, [.ref aHr, .int v1.2.2.2.2.2.2.2.2.1, .int v1.2.2.2.2.2.2.2.2.2.1])), (aHr, .inl (K 1, 495, .inl v1.2.2.2.2.2.2.2.2.2.2)), (aO, .inl (K 13, 1, .inr (.inl (vp_updL oL (0 : Int32).toNatClampNeg v1.2.1.toInt64))))] H := hP
    have hD : va_D A [(aX, .inr (5, [.ref aC, .ref aR, .ref aH, .ref aT, .ref aL, .ref aS, .int xS, .int xF, .int v1.2.2.1, .int v1.2.2.2.1, .int v1.2.2.2.2.1])), (aC, .inr (0, [.ref aCr])), (aCr, .inl (K 0, 55, .inl v1.2.2.2.2.2.1)), (aR, .inr (4, [.int v1.2.2.2.2.2.2.1, .int v1.2.2.2.2.2.2.2.1])), (aH, .inr (2, [.ref aHr, .int v1.2.2.2.2.2.2.2.2.1, .int v1.2.2.2.2.2.2.2.2.2.1])), (aHr, .inl (K 1, 495, .inl v1.2.2.2.2.2.2.2.2.2.2)), (aO, .inl (K 13, 1, .inr (.inl (vp_updL oL (0 : Int32).toNatClampNeg v1.2.1.toInt64))))] := hD
    refine lv_goto (tgt := 15) hx hb dL_letOut_9 (by decide) ?_
    refine lv_iconst (v := (0 : Int32)) hx hb dL_letOut_15 (by decide) ?_
    exact vx_ret (fin_i (u := ((0 : Int32), (v1.2.2.1, v1.2.2.2.1, v1.2.2.2.2.1, v1.2.2.2.2.2.1, v1.2.2.2.2.2.2.1, v1.2.2.2.2.2.2.2.1, v1.2.2.2.2.2.2.2.2.1, v1.2.2.2.2.2.2.2.2.2.1, v1.2.2.2.2.2.2.2.2.2.2, vp_updL oL (0 : Int32).toNatClampNeg v1.2.1.toInt64))) hF hx hb hr hlocks hK hP hD hS (Nat.le_of_ble_eq_true rfl) (Nat.le_of_ble_eq_true rfl) dL_letOut_16)
  · have hF := oF hzv1 hF
    by_cases c2 : v1.1 = 6
    · have hF := oT c2 hF
      rw [c2] at hcl
      refine vx_catch (E := "java/lang/UnsupportedOperationException") (name := "java/lang/UnsupportedOperationException") hown [] ⟨0, 9, 12, 13⟩ [] (htab.trans rfl) (fun z hz => nomatch hz) (by decide) (by decide) (hts (.classLink RL 13 "java/lang/UnsupportedOperationException") (List.mem_of_getElem? (i := 1) rfl)) (va_Nw.use rfl (hE.2.2.2.2.1 _ (List.mem_of_getElem? (i := 0) rfl))) hce hcv hcl ?_
      refine lv_astore_n (lv' := [(3, .ref q9), (0, .ref aX), (1, .int p2), (2, .ref aO)]) hx hb dL_letOut_12 rfl hl (by decide) rfl (fun ls hl => ?_)
      refine lv_iconst (v := (1 : Int32)) hx hb dL_letOut_13 (by decide) ?_
      exact vx_ret (fin_i (u := ((1 : Int32), (v1.2.2.1, v1.2.2.2.1, v1.2.2.2.2.1, v1.2.2.2.2.2.1, v1.2.2.2.2.2.2.1, v1.2.2.2.2.2.2.2.1, v1.2.2.2.2.2.2.2.2.1, v1.2.2.2.2.2.2.2.2.2.1, v1.2.2.2.2.2.2.2.2.2.2, oL))) hF hx hb hr hlocks hK hP hD hS (Nat.le_of_ble_eq_true rfl) (Nat.le_of_ble_eq_true rfl) dL_letOut_14)
    have hF := oF c2 hF
    exact nomatch hF
abbrev RM_L_read : Room := { frames := 8, cells := 1, slots := 6, locals := 208 }
abbrev MC_L_read : Nat := 1
abbrev MS_L_read : Nat := 6
abbrev wf_L_read (K : Nat → ClassId) (aX : Nat) (aC : Nat) (aCr : Nat) (aR : Nat) (aH : Nat) (aHr : Nat) (aT : Nat) (aL : Nat) (aS : Nat) (aO : Nat) (xS : Int32) (xF : Int32) (v : Int32 × Int32 × Int32 × Int32 × (Nat → Int32) × Int32 × Int32 × Int32 × Int32 × (Nat → Int32) × (Nat → Int64)) : va_W := [(aX, .inr (5, [.ref aC, .ref aR, .ref aH, .ref aT, .ref aL, .ref aS, .int xS, .int xF, .int v.2.1, .int v.2.2.1, .int v.2.2.2.1])), (aC, .inr (0, [.ref aCr])), (aCr, .inl (K 0, 55, .inl v.2.2.2.2.1)), (aR, .inr (4, [.int v.2.2.2.2.2.1, .int v.2.2.2.2.2.2.1])), (aH, .inr (2, [.ref aHr, .int v.2.2.2.2.2.2.2.1, .int v.2.2.2.2.2.2.2.2.1])), (aHr, .inl (K 1, 495, .inl v.2.2.2.2.2.2.2.2.2.1)), (aO, .inl (K 13, 1, .inr (.inl v.2.2.2.2.2.2.2.2.2.2)))]
set_option maxHeartbeats 4000000 in
set_option maxRecDepth 100000 in
theorem c_L_read (l : Launch) (hfl : l.stackTraces = false) (D : va_G) (K : Nat → ClassId) (aX : Nat) (aC : Nat) (aCr : Nat) (aR : Nat) (aH : Nat) (aHr : Nat) (aT : Nat) (aL : Nat) (aS : Nat) (aO : Nat) (xS : Int32) (xF : Int32) (xR : Int32) (xD : Int32) (xC : Int32) (row : Nat → Int32) (rR : Int32) (rD : Int32) (kN : Int32) (kK : Int32) (kF : Nat → Int32) (oL : Nat → Int64)  (v : Int32 × Int32 × Int32 × Int32 × (Nat → Int32) × Int32 × Int32 × Int32 × Int32 × (Nat → Int32) × (Nat → Int64)) (hF : f_L_read xR xD xC row rR rD kN kK kF oL = some v) (sz : Nat) :
    (vx_Met l yL_read wsL_read RM_L_read (PC D (TY K) [(aX, .inr (5, [.ref aC, .ref aR, .ref aH, .ref aT, .ref aL, .ref aS, .int xS, .int xF, .int xR, .int xD, .int xC])), (aC, .inr (0, [.ref aCr])), (aCr, .inl (K 0, 55, .inl row)), (aR, .inr (4, [.int rR, .int rD])), (aH, .inr (2, [.ref aHr, .int kN, .int kK])), (aHr, .inl (K 1, 495, .inl kF)), (aO, .inl (K 13, 1, .inr (.inl oL)))] [.ref aX, .ref aO] sz) (QI D (TY K) (wf_L_read K aX aC aCr aR aH aHr aT aL aS aO xS xF) v (va_A [(aX, .inr (5, [.ref aC, .ref aR, .ref aH, .ref aT, .ref aL, .ref aS, .int xS, .int xF, .int xR, .int xD, .int xC])), (aC, .inr (0, [.ref aCr])), (aCr, .inl (K 0, 55, .inl row)), (aR, .inr (4, [.int rR, .int rD])), (aH, .inr (2, [.ref aHr, .int kN, .int kK])), (aHr, .inl (K 1, 495, .inl kF)), (aO, .inl (K 13, 1, .inr (.inl oL)))] sz)) XN MC_L_read MS_L_read (va_A [(aX, .inr (5, [.ref aC, .ref aR, .ref aH, .ref aT, .ref aL, .ref aS, .int xS, .int xF, .int xR, .int xD, .int xC])), (aC, .inr (0, [.ref aCr])), (aCr, .inl (K 0, 55, .inl row)), (aR, .inr (4, [.int rR, .int rD])), (aH, .inr (2, [.ref aHr, .int kN, .int kK])), (aHr, .inl (K 1, 495, .inl kF)), (aO, .inl (K 13, 1, .inr (.inl oL)))] sz)) := by
  refine proH (Qf := fun A => QI D (TY K) (wf_L_read K aX aC aCr aR aH aHr aT aL aS aO xS xF) v A) (XCf := fun _ => XN) (cc := cL_read) (maxL := 3) (ret := (some .int)) (by decide +kernel) rfl (Nat.le_of_ble_eq_true rfl) ?_
  intro p e s m args below meth c hx hb hr hts hown hlocks hml htab hK A hA hE hP hD hS ls hl
  have hown : s.vm.findClass RL = some m.cls := hown
  have hl : lv_has ls 3 [(0, .ref aX), (1, .ref aO)] := hl
  rw [f_L_read] at hF
  refine lv_aload_n hx hb dL_read_0 rfl (lv_at hl 1 rfl) ?_
  refine lv_iconst (v := (0 : Int32)) hx hb dL_read_1 (by decide) ?_
  refine lv_aload_n hx hb dL_read_2 rfl (lv_at hl 0 rfl) ?_
  obtain ⟨v1, hv1, hF⟩ := oB hF
  refine callX_i (wr := [(aO, .inl (K 13, 1, .inr (.inl oL)))]) (wn := [(aX, .inr (5, [.ref aC, .ref aR, .ref aH, .ref aT, .ref aL, .ref aS, .int xS, .int xF, .int v1.2.2.1, .int v1.2.2.2.1, .int v1.2.2.2.2.1])), (aC, .inr (0, [.ref aCr])), (aCr, .inl (K 0, 55, .inl v1.2.2.2.2.2.1)), (aR, .inr (4, [.int v1.2.2.2.2.2.2.1, .int v1.2.2.2.2.2.2.2.1])), (aH, .inr (2, [.ref aHr, .int v1.2.2.2.2.2.2.2.2.1, .int v1.2.2.2.2.2.2.2.2.2.1])), (aHr, .inl (K 1, 495, .inl v1.2.2.2.2.2.2.2.2.2.2)), (aO, .inl (K 13, 1, .inr (.inl oL)))]) (vx_runV (As := []) (rest := [.int (0 : Int32), .ref aO]) ⟨hx, hb, hml, hown, hts⟩ (c_X7_read l hfl D K aX aC aCr aR aH aHr aT aL aS xS xF xR xD xC row rR rD kN kK kF v1 hv1 s.heap.size) (cwV 0 hts gL_read_X7_read rfl rfl rfl (by decide +kernel) ⟨(Nat.le_of_ble_eq_true rfl), (Nat.le_of_ble_eq_true rfl)⟩) (prV hE hK hP hD hS hA [0, 1, 2, 3, 4, 5] rfl rfl 5 0 rfl rfl rfl) rfl rfl hl.1 rfl (lv_room (Nat.le_of_ble_eq_true rfl)) dL_read_3 ⟨(Nat.le_of_ble_eq_true rfl), (Nat.le_of_ble_eq_true rfl)⟩) hP hD hS hA [0, 1, 2, 3, 4, 5] [6] [1, 2, 3, 4, 5, 6, 0] rfl rfl rfl (by decide) rfl rfl (fun hzv1 H locs hP hD hS => ?_) (fun hzv1 q9 ce H locs hP hD hS hce hcv hcl => ?_)
  · have hF := oT hzv1 hF
    refine lv_i2l (v := v1.2.1.toInt64) hx hb dL_read_6 rfl ?_
    refine va_last hx hb hK hP hD hS 6 13 rfl rfl (inB_in (by decide : inB (0 : Int32) 1 = true)) dL_read_7 (fun H locs hP hD hS => ?_)
    have hP : va_P D vwC7 [(aX, .inr (5, [.ref aC, .ref aR, .ref aH, .ref aT, .ref aL, .ref aS, .int xS, .int xF, .int v1.2.2.1, .int v1.2.2.2.1, .int v1.2.2.2.2.1])), (aC, .inr (0, [.ref aCr])), (aCr, .inl (K 0, 55, .inl v1.2.2.2.2.2.1)), (aR, .inr (4, [.int v1.2.2.2.2.2.2.1, .int v1.2.2.2.2.2.2.2.1])), (aH, .inr (2, [.ref aHr, .int v1.2.2.2.2.2.2.2.2.1, .int v1.2.2.2.2.2.2.2.2.2.1])), (aHr, .inl (K 1, 495, .inl v1.2.2.2.2.2.2.2.2.2.2)), (aO, .inl (K 13, 1, .inr (.inl (vp_updL oL (0 : Int32).toNatClampNeg v1.2.1.toInt64))))] H := hP
    have hD : va_D A [(aX, .inr (5, [.ref aC, .ref aR, .ref aH, .ref aT, .ref aL, .ref aS, .int xS, .int xF, .int v1.2.2.1, .int v1.2.2.2.1, .int v1.2.2.2.2.1])), (aC, .inr (0, [.ref aCr])), (aCr, .inl (K 0, 55, .inl v1.2.2.2.2.2.1)), (aR, .inr (4, [.int v1.2.2.2.2.2.2.1, .int v1.2.2.2.2.2.2.2.1])), (aH, .inr (2, [.ref aHr, .int v1.2.2.2.2.2.2.2.2.1, .int v1.2.2.2.2.2.2.2.2.2.1])), (aHr, .inl (K 1, 495, .inl v1.2.2.2.2.2.2.2.2.2.2)), (aO, .inl (K 13, 1, .inr (.inl (vp_updL oL (0 : Int32).toNatClampNeg v1.2.1.toInt64))))] := hD
    refine lv_goto (tgt := 14) hx hb dL_read_8 (by decide) ?_
    refine lv_iconst (v := (0 : Int32)) hx hb dL_read_14 (by decide) ?_
    exact vx_ret (fin_i (u := ((0 : Int32), (v1.2.2.1, v1.2.2.2.1, v1.2.2.2.2.1, v1.2.2.2.2.2.1, v1.2.2.2.2.2.2.1, v1.2.2.2.2.2.2.2.1, v1.2.2.2.2.2.2.2.2.1, v1.2.2.2.2.2.2.2.2.2.1, v1.2.2.2.2.2.2.2.2.2.2, vp_updL oL (0 : Int32).toNatClampNeg v1.2.1.toInt64))) hF hx hb hr hlocks hK hP hD hS (Nat.le_of_ble_eq_true rfl) (Nat.le_of_ble_eq_true rfl) dL_read_15)
  · have hF := oF hzv1 hF
    by_cases c2 : v1.1 = 6
    · have hF := oT c2 hF
      rw [c2] at hcl
      refine vx_catch (E := "java/lang/UnsupportedOperationException") (name := "java/lang/UnsupportedOperationException") hown [] ⟨0, 8, 11, 13⟩ [] (htab.trans rfl) (fun z hz => nomatch hz) (by decide) (by decide) (hts (.classLink RL 13 "java/lang/UnsupportedOperationException") (List.mem_of_getElem? (i := 1) rfl)) (va_Nw.use rfl (hE.2.2.2.2.1 _ (List.mem_of_getElem? (i := 0) rfl))) hce hcv hcl ?_
      refine lv_astore_n (lv' := [(2, .ref q9), (0, .ref aX), (1, .ref aO)]) hx hb dL_read_11 rfl hl (by decide) rfl (fun ls hl => ?_)
      refine lv_iconst (v := (1 : Int32)) hx hb dL_read_12 (by decide) ?_
      exact vx_ret (fin_i (u := ((1 : Int32), (v1.2.2.1, v1.2.2.2.1, v1.2.2.2.2.1, v1.2.2.2.2.2.1, v1.2.2.2.2.2.2.1, v1.2.2.2.2.2.2.2.1, v1.2.2.2.2.2.2.2.2.1, v1.2.2.2.2.2.2.2.2.2.1, v1.2.2.2.2.2.2.2.2.2.2, oL))) hF hx hb hr hlocks hK hP hD hS (Nat.le_of_ble_eq_true rfl) (Nat.le_of_ble_eq_true rfl) dL_read_13)
    have hF := oF c2 hF
    exact nomatch hF
abbrev RM_L_memberOf : Room := { frames := 8, cells := 2, slots := 12, locals := 141 }
abbrev MC_L_memberOf : Nat := 2
abbrev MS_L_memberOf : Nat := 12
abbrev wf_L_memberOf (K : Nat → ClassId) (aX : Nat) (aC : Nat) (aCr : Nat) (aR : Nat) (aH : Nat) (aT : Nat) (aL : Nat) (aS : Nat) (aO : Nat) (xS : Int32) (xF : Int32) (xR : Int32) (xD : Int32) (xC : Int32) (row : Nat → Int32) (v : Int32 × (Nat → Int64)) : va_W := [(aX, .inr (5, [.ref aC, .ref aR, .ref aH, .ref aT, .ref aL, .ref aS, .int xS, .int xF, .int xR, .int xD, .int xC])), (aC, .inr (0, [.ref aCr])), (aCr, .inl (K 0, 55, .inl row)), (aO, .inl (K 13, 1, .inr (.inl v.2)))]
set_option maxHeartbeats 4000000 in
set_option maxRecDepth 100000 in
theorem c_L_memberOf (l : Launch) (hfl : l.stackTraces = false) (D : va_G) (K : Nat → ClassId) (aX : Nat) (aC : Nat) (aCr : Nat) (aR : Nat) (aH : Nat) (aT : Nat) (aL : Nat) (aS : Nat) (aO : Nat) (xS : Int32) (xF : Int32) (xR : Int32) (xD : Int32) (xC : Int32) (row : Nat → Int32) (oL : Nat → Int64) (p2 : Int32) (p3 : Int32) (v : Int32 × (Nat → Int64)) (hF : f_L_memberOf row oL p2 p3 = some v) (sz : Nat) :
    (vx_Met l yL_memberOf wsL_memberOf RM_L_memberOf (PC D (TY K) [(aX, .inr (5, [.ref aC, .ref aR, .ref aH, .ref aT, .ref aL, .ref aS, .int xS, .int xF, .int xR, .int xD, .int xC])), (aC, .inr (0, [.ref aCr])), (aCr, .inl (K 0, 55, .inl row)), (aO, .inl (K 13, 1, .inr (.inl oL)))] [.ref aX, .int p2, .int p3, .ref aO] sz) (QI D (TY K) (wf_L_memberOf K aX aC aCr aR aH aT aL aS aO xS xF xR xD xC row) v (va_A [(aX, .inr (5, [.ref aC, .ref aR, .ref aH, .ref aT, .ref aL, .ref aS, .int xS, .int xF, .int xR, .int xD, .int xC])), (aC, .inr (0, [.ref aCr])), (aCr, .inl (K 0, 55, .inl row)), (aO, .inl (K 13, 1, .inr (.inl oL)))] sz)) XN MC_L_memberOf MS_L_memberOf (va_A [(aX, .inr (5, [.ref aC, .ref aR, .ref aH, .ref aT, .ref aL, .ref aS, .int xS, .int xF, .int xR, .int xD, .int xC])), (aC, .inr (0, [.ref aCr])), (aCr, .inl (K 0, 55, .inl row)), (aO, .inl (K 13, 1, .inr (.inl oL)))] sz)) := by
  refine proH (Qf := fun A => QI D (TY K) (wf_L_memberOf K aX aC aCr aR aH aT aL aS aO xS xF xR xD xC row) v A) (XCf := fun _ => XN) (cc := cL_memberOf) (maxL := 5) (ret := (some .int)) (by decide +kernel) rfl (Nat.le_of_ble_eq_true rfl) ?_
  intro p e s m args below meth c hx hb hr hts hown hlocks hml htab hK A hA hE hP hD hS ls hl
  have hown : s.vm.findClass RL = some m.cls := hown
  have hl : lv_has ls 5 [(0, .ref aX), (1, .int p2), (2, .int p3), (3, .ref aO)] := hl
  rw [f_L_memberOf] at hF
  refine lv_aload_n hx hb dL_memberOf_0 rfl (lv_at hl 3 rfl) ?_
  refine lv_iconst (v := (0 : Int32)) hx hb dL_memberOf_1 (by decide) ?_
  refine lv_aload_n hx hb dL_memberOf_2 rfl (lv_at hl 0 rfl) ?_
  refine lv_iload_n hx hb dL_memberOf_3 rfl (lv_at hl 1 rfl) ?_
  refine lv_iload_n hx hb dL_memberOf_4 rfl (lv_at hl 2 rfl) ?_
  obtain ⟨v1, hv1, hF⟩ := oB hF
  refine callX_i (wr := [(aO, .inl (K 13, 1, .inr (.inl oL)))]) (wn := [(aX, .inr (5, [.ref aC, .ref aR, .ref aH, .ref aT, .ref aL, .ref aS, .int xS, .int xF, .int xR, .int xD, .int xC])), (aC, .inr (0, [.ref aCr])), (aCr, .inl (K 0, 55, .inl row)), (aO, .inl (K 13, 1, .inr (.inl oL)))]) (vx_runV (As := [.int p2, .int p3]) (rest := [.int (0 : Int32), .ref aO]) ⟨hx, hb, hml, hown, hts⟩ (c_X7_memberOf l hfl D K aX aC aCr aR aH aT aL aS xS xF xR xD xC row p2 p3 v1 hv1 s.heap.size) (cwV 2 hts gL_memberOf_X7_memberOf rfl rfl rfl (by decide +kernel) ⟨(Nat.le_of_ble_eq_true rfl), (Nat.le_of_ble_eq_true rfl)⟩) (prV hE hK hP hD hS hA [0, 1, 2] rfl rfl 5 0 rfl rfl rfl) rfl rfl hl.1 rfl (lv_room (Nat.le_of_ble_eq_true rfl)) dL_memberOf_5 ⟨(Nat.le_of_ble_eq_true rfl), (Nat.le_of_ble_eq_true rfl)⟩) hP hD hS hA [0, 1, 2] [3] [1, 2, 3, 0] rfl rfl rfl (by decide) rfl rfl (fun hzv1 H locs hP hD hS => ?_) (fun hzv1 q9 ce H locs hP hD hS hce hcv hcl => ?_)
  · have hF := oT hzv1 hF
    refine lv_i2l (v := v1.2.1.toInt64) hx hb dL_memberOf_8 rfl ?_
    refine va_last hx hb hK hP hD hS 3 13 rfl rfl (inB_in (by decide : inB (0 : Int32) 1 = true)) dL_memberOf_9 (fun H locs hP hD hS => ?_)
    have hP : va_P D vwC7 [(aX, .inr (5, [.ref aC, .ref aR, .ref aH, .ref aT, .ref aL, .ref aS, .int xS, .int xF, .int xR, .int xD, .int xC])), (aC, .inr (0, [.ref aCr])), (aCr, .inl (K 0, 55, .inl row)), (aO, .inl (K 13, 1, .inr (.inl (vp_updL oL (0 : Int32).toNatClampNeg v1.2.1.toInt64))))] H := hP
    have hD : va_D A [(aX, .inr (5, [.ref aC, .ref aR, .ref aH, .ref aT, .ref aL, .ref aS, .int xS, .int xF, .int xR, .int xD, .int xC])), (aC, .inr (0, [.ref aCr])), (aCr, .inl (K 0, 55, .inl row)), (aO, .inl (K 13, 1, .inr (.inl (vp_updL oL (0 : Int32).toNatClampNeg v1.2.1.toInt64))))] := hD
    refine lv_goto (tgt := 21) hx hb dL_memberOf_10 (by decide) ?_
    refine lv_iconst (v := (0 : Int32)) hx hb dL_memberOf_21 (by decide) ?_
    exact vx_ret (fin_i (u := ((0 : Int32), vp_updL oL (0 : Int32).toNatClampNeg v1.2.1.toInt64)) hF hx hb hr hlocks hK hP hD hS (Nat.le_of_ble_eq_true rfl) (Nat.le_of_ble_eq_true rfl) dL_memberOf_22)
  · have hF := oF hzv1 hF
    by_cases c2 : v1.1 = 1
    · have hF := oT c2 hF
      rw [c2] at hcl
      refine vx_catch (E := "java/lang/IndexOutOfBoundsException") (name := "java/lang/IndexOutOfBoundsException") hown [] ⟨0, 10, 13, 48⟩ [⟨0, 10, 17, 50⟩] (htab.trans rfl) (fun z hz => nomatch hz) (by decide) (by decide) (hts (.classLink RL 48 "java/lang/IndexOutOfBoundsException") (List.mem_of_getElem? (i := 1) rfl)) (va_Nw.use rfl (hE.2.2.2.2.1 _ (List.mem_of_getElem? (i := 1) rfl))) hce hcv hcl ?_
      refine lv_astore (lv' := [(4, .ref q9), (0, .ref aX), (1, .int p2), (2, .int p3), (3, .ref aO)]) hx hb dL_memberOf_13 hl (by decide) rfl (fun ls hl => ?_)
      refine lv_iconst (v := (1 : Int32)) hx hb dL_memberOf_15 (by decide) ?_
      exact vx_ret (fin_i (u := ((1 : Int32), oL)) hF hx hb hr hlocks hK hP hD hS (Nat.le_of_ble_eq_true rfl) (Nat.le_of_ble_eq_true rfl) dL_memberOf_16)
    have hF := oF c2 hF
    by_cases c3 : v1.1 = 2
    · have hF := oT c3 hF
      rw [c3] at hcl
      refine vx_catch (E := "java/lang/IllegalArgumentException") (name := "java/lang/IllegalArgumentException") hown [⟨0, 10, 13, 48⟩] ⟨0, 10, 17, 50⟩ [] (htab.trans rfl) (fun z hz => by rcases List.mem_singleton.mp hz with rfl; exact Or.inr ⟨by decide, "java/lang/IndexOutOfBoundsException", (hts (.classLink RL 48 "java/lang/IndexOutOfBoundsException") (List.mem_of_getElem? (i := 1) rfl)), hE.2.2.2.2.2.1 _ (List.mem_of_getElem? (i := 0) rfl)⟩) (by decide) (by decide) (hts (.classLink RL 50 "java/lang/IllegalArgumentException") (List.mem_of_getElem? (i := 2) rfl)) (va_Nw.use rfl (hE.2.2.2.2.1 _ (List.mem_of_getElem? (i := 2) rfl))) hce hcv hcl ?_
      refine lv_astore (lv' := [(4, .ref q9), (0, .ref aX), (1, .int p2), (2, .int p3), (3, .ref aO)]) hx hb dL_memberOf_17 hl (by decide) rfl (fun ls hl => ?_)
      refine lv_iconst (v := (2 : Int32)) hx hb dL_memberOf_19 (by decide) ?_
      exact vx_ret (fin_i (u := ((2 : Int32), oL)) hF hx hb hr hlocks hK hP hD hS (Nat.le_of_ble_eq_true rfl) (Nat.le_of_ble_eq_true rfl) dL_memberOf_20)
    have hF := oF c3 hF
    exact nomatch hF
abbrev RM_L_needle : Room := { frames := 8, cells := 1, slots := 6, locals := 140 }
abbrev MC_L_needle : Nat := 1
abbrev MS_L_needle : Nat := 6
abbrev wf_L_needle (K : Nat → ClassId) (aX : Nat) (aC : Nat) (aCr : Nat) (aR : Nat) (aH : Nat) (aT : Nat) (aL : Nat) (aS : Nat) (aO : Nat) (xS : Int32) (xF : Int32) (xR : Int32) (xD : Int32) (xC : Int32) (row : Nat → Int32) (v : Int32 × (Nat → Int64)) : va_W := [(aX, .inr (5, [.ref aC, .ref aR, .ref aH, .ref aT, .ref aL, .ref aS, .int xS, .int xF, .int xR, .int xD, .int xC])), (aC, .inr (0, [.ref aCr])), (aCr, .inl (K 0, 55, .inl row)), (aO, .inl (K 13, 1, .inr (.inl v.2)))]
set_option maxHeartbeats 4000000 in
set_option maxRecDepth 100000 in
theorem c_L_needle (l : Launch) (hfl : l.stackTraces = false) (D : va_G) (K : Nat → ClassId) (aX : Nat) (aC : Nat) (aCr : Nat) (aR : Nat) (aH : Nat) (aT : Nat) (aL : Nat) (aS : Nat) (aO : Nat) (xS : Int32) (xF : Int32) (xR : Int32) (xD : Int32) (xC : Int32) (row : Nat → Int32) (oL : Nat → Int64) (p2 : Int32) (v : Int32 × (Nat → Int64)) (hF : f_L_needle row oL p2 = some v) (sz : Nat) :
    (vx_Met l yL_needle wsL_needle RM_L_needle (PC D (TY K) [(aX, .inr (5, [.ref aC, .ref aR, .ref aH, .ref aT, .ref aL, .ref aS, .int xS, .int xF, .int xR, .int xD, .int xC])), (aC, .inr (0, [.ref aCr])), (aCr, .inl (K 0, 55, .inl row)), (aO, .inl (K 13, 1, .inr (.inl oL)))] [.ref aX, .int p2, .ref aO] sz) (QI D (TY K) (wf_L_needle K aX aC aCr aR aH aT aL aS aO xS xF xR xD xC row) v (va_A [(aX, .inr (5, [.ref aC, .ref aR, .ref aH, .ref aT, .ref aL, .ref aS, .int xS, .int xF, .int xR, .int xD, .int xC])), (aC, .inr (0, [.ref aCr])), (aCr, .inl (K 0, 55, .inl row)), (aO, .inl (K 13, 1, .inr (.inl oL)))] sz)) XN MC_L_needle MS_L_needle (va_A [(aX, .inr (5, [.ref aC, .ref aR, .ref aH, .ref aT, .ref aL, .ref aS, .int xS, .int xF, .int xR, .int xD, .int xC])), (aC, .inr (0, [.ref aCr])), (aCr, .inl (K 0, 55, .inl row)), (aO, .inl (K 13, 1, .inr (.inl oL)))] sz)) := by
  refine proH (Qf := fun A => QI D (TY K) (wf_L_needle K aX aC aCr aR aH aT aL aS aO xS xF xR xD xC row) v A) (XCf := fun _ => XN) (cc := cL_needle) (maxL := 4) (ret := (some .int)) (by decide +kernel) rfl (Nat.le_of_ble_eq_true rfl) ?_
  intro p e s m args below meth c hx hb hr hts hown hlocks hml htab hK A hA hE hP hD hS ls hl
  have hown : s.vm.findClass RL = some m.cls := hown
  have hl : lv_has ls 4 [(0, .ref aX), (1, .int p2), (2, .ref aO)] := hl
  rw [f_L_needle] at hF
  refine lv_aload_n hx hb dL_needle_0 rfl (lv_at hl 2 rfl) ?_
  refine lv_iconst (v := (0 : Int32)) hx hb dL_needle_1 (by decide) ?_
  refine lv_aload_n hx hb dL_needle_2 rfl (lv_at hl 0 rfl) ?_
  refine lv_iload_n hx hb dL_needle_3 rfl (lv_at hl 1 rfl) ?_
  obtain ⟨v1, hv1, hF⟩ := oB hF
  refine callX_i (wr := [(aO, .inl (K 13, 1, .inr (.inl oL)))]) (wn := [(aX, .inr (5, [.ref aC, .ref aR, .ref aH, .ref aT, .ref aL, .ref aS, .int xS, .int xF, .int xR, .int xD, .int xC])), (aC, .inr (0, [.ref aCr])), (aCr, .inl (K 0, 55, .inl row)), (aO, .inl (K 13, 1, .inr (.inl oL)))]) (vx_runV (As := [.int p2]) (rest := [.int (0 : Int32), .ref aO]) ⟨hx, hb, hml, hown, hts⟩ (c_X7_needle l hfl D K aX aC aCr aR aH aT aL aS xS xF xR xD xC row p2 v1 hv1 s.heap.size) (cwV 1 hts gL_needle_X7_needle rfl rfl rfl (by decide +kernel) ⟨(Nat.le_of_ble_eq_true rfl), (Nat.le_of_ble_eq_true rfl)⟩) (prV hE hK hP hD hS hA [0, 1, 2] rfl rfl 5 0 rfl rfl rfl) rfl rfl hl.1 rfl (lv_room (Nat.le_of_ble_eq_true rfl)) dL_needle_4 ⟨(Nat.le_of_ble_eq_true rfl), (Nat.le_of_ble_eq_true rfl)⟩) hP hD hS hA [0, 1, 2] [3] [1, 2, 3, 0] rfl rfl rfl (by decide) rfl rfl (fun hzv1 H locs hP hD hS => ?_) (fun hzv1 q9 ce H locs hP hD hS hce hcv hcl => ?_)
  · have hF := oT hzv1 hF
    refine lv_i2l (v := v1.2.1.toInt64) hx hb dL_needle_7 rfl ?_
    refine va_last hx hb hK hP hD hS 3 13 rfl rfl (inB_in (by decide : inB (0 : Int32) 1 = true)) dL_needle_8 (fun H locs hP hD hS => ?_)
    have hP : va_P D vwC7 [(aX, .inr (5, [.ref aC, .ref aR, .ref aH, .ref aT, .ref aL, .ref aS, .int xS, .int xF, .int xR, .int xD, .int xC])), (aC, .inr (0, [.ref aCr])), (aCr, .inl (K 0, 55, .inl row)), (aO, .inl (K 13, 1, .inr (.inl (vp_updL oL (0 : Int32).toNatClampNeg v1.2.1.toInt64))))] H := hP
    have hD : va_D A [(aX, .inr (5, [.ref aC, .ref aR, .ref aH, .ref aT, .ref aL, .ref aS, .int xS, .int xF, .int xR, .int xD, .int xC])), (aC, .inr (0, [.ref aCr])), (aCr, .inl (K 0, 55, .inl row)), (aO, .inl (K 13, 1, .inr (.inl (vp_updL oL (0 : Int32).toNatClampNeg v1.2.1.toInt64))))] := hD
    refine lv_goto (tgt := 15) hx hb dL_needle_9 (by decide) ?_
    refine lv_iconst (v := (0 : Int32)) hx hb dL_needle_15 (by decide) ?_
    exact vx_ret (fin_i (u := ((0 : Int32), vp_updL oL (0 : Int32).toNatClampNeg v1.2.1.toInt64)) hF hx hb hr hlocks hK hP hD hS (Nat.le_of_ble_eq_true rfl) (Nat.le_of_ble_eq_true rfl) dL_needle_16)
  · have hF := oF hzv1 hF
    by_cases c2 : v1.1 = 1
    · have hF := oT c2 hF
      rw [c2] at hcl
      refine vx_catch (E := "java/lang/IndexOutOfBoundsException") (name := "java/lang/IndexOutOfBoundsException") hown [] ⟨0, 9, 12, 48⟩ [] (htab.trans rfl) (fun z hz => nomatch hz) (by decide) (by decide) (hts (.classLink RL 48 "java/lang/IndexOutOfBoundsException") (List.mem_of_getElem? (i := 1) rfl)) (va_Nw.use rfl (hE.2.2.2.2.1 _ (List.mem_of_getElem? (i := 1) rfl))) hce hcv hcl ?_
      refine lv_astore_n (lv' := [(3, .ref q9), (0, .ref aX), (1, .int p2), (2, .ref aO)]) hx hb dL_needle_12 rfl hl (by decide) rfl (fun ls hl => ?_)
      refine lv_iconst (v := (1 : Int32)) hx hb dL_needle_13 (by decide) ?_
      exact vx_ret (fin_i (u := ((1 : Int32), oL)) hF hx hb hr hlocks hK hP hD hS (Nat.le_of_ble_eq_true rfl) (Nat.le_of_ble_eq_true rfl) dL_needle_14)
    have hF := oF c2 hF
    exact nomatch hF
abbrev RM_L_needleAgain : Room := { frames := 8, cells := 1, slots := 6, locals := 140 }
abbrev MC_L_needleAgain : Nat := 1
abbrev MS_L_needleAgain : Nat := 6
abbrev wf_L_needleAgain (K : Nat → ClassId) (aX : Nat) (aC : Nat) (aCr : Nat) (aR : Nat) (aH : Nat) (aT : Nat) (aL : Nat) (aS : Nat) (aO : Nat) (xS : Int32) (xF : Int32) (xR : Int32) (xD : Int32) (xC : Int32) (row : Nat → Int32) (v : Int32 × (Nat → Int64)) : va_W := [(aX, .inr (5, [.ref aC, .ref aR, .ref aH, .ref aT, .ref aL, .ref aS, .int xS, .int xF, .int xR, .int xD, .int xC])), (aC, .inr (0, [.ref aCr])), (aCr, .inl (K 0, 55, .inl row)), (aO, .inl (K 13, 1, .inr (.inl v.2)))]
set_option maxHeartbeats 4000000 in
set_option maxRecDepth 100000 in
theorem c_L_needleAgain (l : Launch) (hfl : l.stackTraces = false) (D : va_G) (K : Nat → ClassId) (aX : Nat) (aC : Nat) (aCr : Nat) (aR : Nat) (aH : Nat) (aT : Nat) (aL : Nat) (aS : Nat) (aO : Nat) (xS : Int32) (xF : Int32) (xR : Int32) (xD : Int32) (xC : Int32) (row : Nat → Int32) (oL : Nat → Int64) (p2 : Int32) (v : Int32 × (Nat → Int64)) (hF : f_L_needleAgain row oL p2 = some v) (sz : Nat) :
    (vx_Met l yL_needleAgain wsL_needleAgain RM_L_needleAgain (PC D (TY K) [(aX, .inr (5, [.ref aC, .ref aR, .ref aH, .ref aT, .ref aL, .ref aS, .int xS, .int xF, .int xR, .int xD, .int xC])), (aC, .inr (0, [.ref aCr])), (aCr, .inl (K 0, 55, .inl row)), (aO, .inl (K 13, 1, .inr (.inl oL)))] [.ref aX, .int p2, .ref aO] sz) (QI D (TY K) (wf_L_needleAgain K aX aC aCr aR aH aT aL aS aO xS xF xR xD xC row) v (va_A [(aX, .inr (5, [.ref aC, .ref aR, .ref aH, .ref aT, .ref aL, .ref aS, .int xS, .int xF, .int xR, .int xD, .int xC])), (aC, .inr (0, [.ref aCr])), (aCr, .inl (K 0, 55, .inl row)), (aO, .inl (K 13, 1, .inr (.inl oL)))] sz)) XN MC_L_needleAgain MS_L_needleAgain (va_A [(aX, .inr (5, [.ref aC, .ref aR, .ref aH, .ref aT, .ref aL, .ref aS, .int xS, .int xF, .int xR, .int xD, .int xC])), (aC, .inr (0, [.ref aCr])), (aCr, .inl (K 0, 55, .inl row)), (aO, .inl (K 13, 1, .inr (.inl oL)))] sz)) := by
  refine proH (Qf := fun A => QI D (TY K) (wf_L_needleAgain K aX aC aCr aR aH aT aL aS aO xS xF xR xD xC row) v A) (XCf := fun _ => XN) (cc := cL_needleAgain) (maxL := 4) (ret := (some .int)) (by decide +kernel) rfl (Nat.le_of_ble_eq_true rfl) ?_
  intro p e s m args below meth c hx hb hr hts hown hlocks hml htab hK A hA hE hP hD hS ls hl
  have hown : s.vm.findClass RL = some m.cls := hown
  have hl : lv_has ls 4 [(0, .ref aX), (1, .int p2), (2, .ref aO)] := hl
  rw [f_L_needleAgain] at hF
  refine lv_aload_n hx hb dL_needleAgain_0 rfl (lv_at hl 2 rfl) ?_
  refine lv_iconst (v := (0 : Int32)) hx hb dL_needleAgain_1 (by decide) ?_
  refine lv_aload_n hx hb dL_needleAgain_2 rfl (lv_at hl 0 rfl) ?_
  refine lv_iload_n hx hb dL_needleAgain_3 rfl (lv_at hl 1 rfl) ?_
  obtain ⟨v1, hv1, hF⟩ := oB hF
  refine callX_i (wr := [(aO, .inl (K 13, 1, .inr (.inl oL)))]) (wn := [(aX, .inr (5, [.ref aC, .ref aR, .ref aH, .ref aT, .ref aL, .ref aS, .int xS, .int xF, .int xR, .int xD, .int xC])), (aC, .inr (0, [.ref aCr])), (aCr, .inl (K 0, 55, .inl row)), (aO, .inl (K 13, 1, .inr (.inl oL)))]) (vx_runV (As := [.int p2]) (rest := [.int (0 : Int32), .ref aO]) ⟨hx, hb, hml, hown, hts⟩ (c_X7_needleAgain l hfl D K aX aC aCr aR aH aT aL aS xS xF xR xD xC row p2 v1 hv1 s.heap.size) (cwV 1 hts gL_needleAgain_X7_needleAgain rfl rfl rfl (by decide +kernel) ⟨(Nat.le_of_ble_eq_true rfl), (Nat.le_of_ble_eq_true rfl)⟩) (prV hE hK hP hD hS hA [0, 1, 2] rfl rfl 5 0 rfl rfl rfl) rfl rfl hl.1 rfl (lv_room (Nat.le_of_ble_eq_true rfl)) dL_needleAgain_4 ⟨(Nat.le_of_ble_eq_true rfl), (Nat.le_of_ble_eq_true rfl)⟩) hP hD hS hA [0, 1, 2] [3] [1, 2, 3, 0] rfl rfl rfl (by decide) rfl rfl (fun hzv1 H locs hP hD hS => ?_) (fun hzv1 q9 ce H locs hP hD hS hce hcv hcl => ?_)
  · have hF := oT hzv1 hF
    refine lv_i2l (v := v1.2.1.toInt64) hx hb dL_needleAgain_7 rfl ?_
    refine va_last hx hb hK hP hD hS 3 13 rfl rfl (inB_in (by decide : inB (0 : Int32) 1 = true)) dL_needleAgain_8 (fun H locs hP hD hS => ?_)
    have hP : va_P D vwC7 [(aX, .inr (5, [.ref aC, .ref aR, .ref aH, .ref aT, .ref aL, .ref aS, .int xS, .int xF, .int xR, .int xD, .int xC])), (aC, .inr (0, [.ref aCr])), (aCr, .inl (K 0, 55, .inl row)), (aO, .inl (K 13, 1, .inr (.inl (vp_updL oL (0 : Int32).toNatClampNeg v1.2.1.toInt64))))] H := hP
    have hD : va_D A [(aX, .inr (5, [.ref aC, .ref aR, .ref aH, .ref aT, .ref aL, .ref aS, .int xS, .int xF, .int xR, .int xD, .int xC])), (aC, .inr (0, [.ref aCr])), (aCr, .inl (K 0, 55, .inl row)), (aO, .inl (K 13, 1, .inr (.inl (vp_updL oL (0 : Int32).toNatClampNeg v1.2.1.toInt64))))] := hD
    refine lv_goto (tgt := 15) hx hb dL_needleAgain_9 (by decide) ?_
    refine lv_iconst (v := (0 : Int32)) hx hb dL_needleAgain_15 (by decide) ?_
    exact vx_ret (fin_i (u := ((0 : Int32), vp_updL oL (0 : Int32).toNatClampNeg v1.2.1.toInt64)) hF hx hb hr hlocks hK hP hD hS (Nat.le_of_ble_eq_true rfl) (Nat.le_of_ble_eq_true rfl) dL_needleAgain_16)
  · have hF := oF hzv1 hF
    by_cases c2 : v1.1 = 1
    · have hF := oT c2 hF
      rw [c2] at hcl
      refine vx_catch (E := "java/lang/IndexOutOfBoundsException") (name := "java/lang/IndexOutOfBoundsException") hown [] ⟨0, 9, 12, 48⟩ [] (htab.trans rfl) (fun z hz => nomatch hz) (by decide) (by decide) (hts (.classLink RL 48 "java/lang/IndexOutOfBoundsException") (List.mem_of_getElem? (i := 1) rfl)) (va_Nw.use rfl (hE.2.2.2.2.1 _ (List.mem_of_getElem? (i := 1) rfl))) hce hcv hcl ?_
      refine lv_astore_n (lv' := [(3, .ref q9), (0, .ref aX), (1, .int p2), (2, .ref aO)]) hx hb dL_needleAgain_12 rfl hl (by decide) rfl (fun ls hl => ?_)
      refine lv_iconst (v := (1 : Int32)) hx hb dL_needleAgain_13 (by decide) ?_
      exact vx_ret (fin_i (u := ((1 : Int32), oL)) hF hx hb hr hlocks hK hP hD hS (Nat.le_of_ble_eq_true rfl) (Nat.le_of_ble_eq_true rfl) dL_needleAgain_14)
    have hF := oF c2 hF
    exact nomatch hF
abbrev RM_L_off : Room := { frames := 8, cells := 2, slots := 12, locals := 140 }
abbrev MC_L_off : Nat := 2
abbrev MS_L_off : Nat := 12
abbrev wf_L_off (K : Nat → ClassId) (aX : Nat) (aC : Nat) (aCr : Nat) (aR : Nat) (aH : Nat) (aT : Nat) (aL : Nat) (aS : Nat) (aO : Nat) (xS : Int32) (xF : Int32) (xR : Int32) (xD : Int32) (xC : Int32) (row : Nat → Int32) (v : Int32 × (Nat → Int64)) : va_W := [(aX, .inr (5, [.ref aC, .ref aR, .ref aH, .ref aT, .ref aL, .ref aS, .int xS, .int xF, .int xR, .int xD, .int xC])), (aC, .inr (0, [.ref aCr])), (aCr, .inl (K 0, 55, .inl row)), (aO, .inl (K 13, 1, .inr (.inl v.2)))]
set_option maxHeartbeats 4000000 in
set_option maxRecDepth 100000 in
theorem c_L_off (l : Launch) (hfl : l.stackTraces = false) (D : va_G) (K : Nat → ClassId) (aX : Nat) (aC : Nat) (aCr : Nat) (aR : Nat) (aH : Nat) (aT : Nat) (aL : Nat) (aS : Nat) (aO : Nat) (xS : Int32) (xF : Int32) (xR : Int32) (xD : Int32) (xC : Int32) (row : Nat → Int32) (oL : Nat → Int64) (p2 : Int32) (v : Int32 × (Nat → Int64)) (hF : f_L_off row oL p2 = some v) (sz : Nat) :
    (vx_Met l yL_off wsL_off RM_L_off (PC D (TY K) [(aX, .inr (5, [.ref aC, .ref aR, .ref aH, .ref aT, .ref aL, .ref aS, .int xS, .int xF, .int xR, .int xD, .int xC])), (aC, .inr (0, [.ref aCr])), (aCr, .inl (K 0, 55, .inl row)), (aO, .inl (K 13, 1, .inr (.inl oL)))] [.ref aX, .int p2, .ref aO] sz) (QI D (TY K) (wf_L_off K aX aC aCr aR aH aT aL aS aO xS xF xR xD xC row) v (va_A [(aX, .inr (5, [.ref aC, .ref aR, .ref aH, .ref aT, .ref aL, .ref aS, .int xS, .int xF, .int xR, .int xD, .int xC])), (aC, .inr (0, [.ref aCr])), (aCr, .inl (K 0, 55, .inl row)), (aO, .inl (K 13, 1, .inr (.inl oL)))] sz)) XN MC_L_off MS_L_off (va_A [(aX, .inr (5, [.ref aC, .ref aR, .ref aH, .ref aT, .ref aL, .ref aS, .int xS, .int xF, .int xR, .int xD, .int xC])), (aC, .inr (0, [.ref aCr])), (aCr, .inl (K 0, 55, .inl row)), (aO, .inl (K 13, 1, .inr (.inl oL)))] sz)) := by
  refine proH (Qf := fun A => QI D (TY K) (wf_L_off K aX aC aCr aR aH aT aL aS aO xS xF xR xD xC row) v A) (XCf := fun _ => XN) (cc := cL_off) (maxL := 4) (ret := (some .int)) (by decide +kernel) rfl (Nat.le_of_ble_eq_true rfl) ?_
  intro p e s m args below meth c hx hb hr hts hown hlocks hml htab hK A hA hE hP hD hS ls hl
  have hown : s.vm.findClass RL = some m.cls := hown
  have hl : lv_has ls 4 [(0, .ref aX), (1, .int p2), (2, .ref aO)] := hl
  rw [f_L_off] at hF
  refine lv_aload_n hx hb dL_off_0 rfl (lv_at hl 2 rfl) ?_
  refine lv_iconst (v := (0 : Int32)) hx hb dL_off_1 (by decide) ?_
  refine lv_aload_n hx hb dL_off_2 rfl (lv_at hl 0 rfl) ?_
  refine lv_iload_n hx hb dL_off_3 rfl (lv_at hl 1 rfl) ?_
  obtain ⟨v1, hv1, hF⟩ := oB hF
  refine callX_i (wr := [(aO, .inl (K 13, 1, .inr (.inl oL)))]) (wn := [(aX, .inr (5, [.ref aC, .ref aR, .ref aH, .ref aT, .ref aL, .ref aS, .int xS, .int xF, .int xR, .int xD, .int xC])), (aC, .inr (0, [.ref aCr])), (aCr, .inl (K 0, 55, .inl row)), (aO, .inl (K 13, 1, .inr (.inl oL)))]) (vx_runV (As := [.int p2]) (rest := [.int (0 : Int32), .ref aO]) ⟨hx, hb, hml, hown, hts⟩ (c_X7_off l hfl D K aX aC aCr aR aH aT aL aS xS xF xR xD xC row p2 v1 hv1 s.heap.size) (cwV 1 hts gL_off_X7_off rfl rfl rfl (by decide +kernel) ⟨(Nat.le_of_ble_eq_true rfl), (Nat.le_of_ble_eq_true rfl)⟩) (prV hE hK hP hD hS hA [0, 1, 2] rfl rfl 5 0 rfl rfl rfl) rfl rfl hl.1 rfl (lv_room (Nat.le_of_ble_eq_true rfl)) dL_off_4 ⟨(Nat.le_of_ble_eq_true rfl), (Nat.le_of_ble_eq_true rfl)⟩) hP hD hS hA [0, 1, 2] [3] [1, 2, 3, 0] rfl rfl rfl (by decide) rfl rfl (fun hzv1 H locs hP hD hS => ?_) (fun hzv1 q9 ce H locs hP hD hS hce hcv hcl => ?_)
  · have hF := oT hzv1 hF
    refine lv_i2l (v := v1.2.1.toInt64) hx hb dL_off_7 rfl ?_
    refine va_last hx hb hK hP hD hS 3 13 rfl rfl (inB_in (by decide : inB (0 : Int32) 1 = true)) dL_off_8 (fun H locs hP hD hS => ?_)
    have hP : va_P D vwC7 [(aX, .inr (5, [.ref aC, .ref aR, .ref aH, .ref aT, .ref aL, .ref aS, .int xS, .int xF, .int xR, .int xD, .int xC])), (aC, .inr (0, [.ref aCr])), (aCr, .inl (K 0, 55, .inl row)), (aO, .inl (K 13, 1, .inr (.inl (vp_updL oL (0 : Int32).toNatClampNeg v1.2.1.toInt64))))] H := hP
    have hD : va_D A [(aX, .inr (5, [.ref aC, .ref aR, .ref aH, .ref aT, .ref aL, .ref aS, .int xS, .int xF, .int xR, .int xD, .int xC])), (aC, .inr (0, [.ref aCr])), (aCr, .inl (K 0, 55, .inl row)), (aO, .inl (K 13, 1, .inr (.inl (vp_updL oL (0 : Int32).toNatClampNeg v1.2.1.toInt64))))] := hD
    refine lv_goto (tgt := 18) hx hb dL_off_9 (by decide) ?_
    refine lv_iconst (v := (0 : Int32)) hx hb dL_off_18 (by decide) ?_
    exact vx_ret (fin_i (u := ((0 : Int32), vp_updL oL (0 : Int32).toNatClampNeg v1.2.1.toInt64)) hF hx hb hr hlocks hK hP hD hS (Nat.le_of_ble_eq_true rfl) (Nat.le_of_ble_eq_true rfl) dL_off_19)
  · have hF := oF hzv1 hF
    by_cases c2 : v1.1 = 1
    · have hF := oT c2 hF
      rw [c2] at hcl
      refine vx_catch (E := "java/lang/IndexOutOfBoundsException") (name := "java/lang/IndexOutOfBoundsException") hown [] ⟨0, 9, 12, 48⟩ [⟨0, 9, 15, 61⟩] (htab.trans rfl) (fun z hz => nomatch hz) (by decide) (by decide) (hts (.classLink RL 48 "java/lang/IndexOutOfBoundsException") (List.mem_of_getElem? (i := 1) rfl)) (va_Nw.use rfl (hE.2.2.2.2.1 _ (List.mem_of_getElem? (i := 1) rfl))) hce hcv hcl ?_
      refine lv_astore_n (lv' := [(3, .ref q9), (0, .ref aX), (1, .int p2), (2, .ref aO)]) hx hb dL_off_12 rfl hl (by decide) rfl (fun ls hl => ?_)
      refine lv_iconst (v := (1 : Int32)) hx hb dL_off_13 (by decide) ?_
      exact vx_ret (fin_i (u := ((1 : Int32), oL)) hF hx hb hr hlocks hK hP hD hS (Nat.le_of_ble_eq_true rfl) (Nat.le_of_ble_eq_true rfl) dL_off_14)
    have hF := oF c2 hF
    by_cases c3 : v1.1 = 3
    · have hF := oT c3 hF
      rw [c3] at hcl
      refine vx_catch (E := "java/util/NoSuchElementException") (name := "java/util/NoSuchElementException") hown [⟨0, 9, 12, 48⟩] ⟨0, 9, 15, 61⟩ [] (htab.trans rfl) (fun z hz => by rcases List.mem_singleton.mp hz with rfl; exact Or.inr ⟨by decide, "java/lang/IndexOutOfBoundsException", (hts (.classLink RL 48 "java/lang/IndexOutOfBoundsException") (List.mem_of_getElem? (i := 1) rfl)), hE.2.2.2.2.2.1 _ (List.mem_of_getElem? (i := 1) rfl)⟩) (by decide) (by decide) (hts (.classLink RL 61 "java/util/NoSuchElementException") (List.mem_of_getElem? (i := 2) rfl)) (va_Nw.use rfl (hE.2.2.2.2.1 _ (List.mem_of_getElem? (i := 3) rfl))) hce hcv hcl ?_
      refine lv_astore_n (lv' := [(3, .ref q9), (0, .ref aX), (1, .int p2), (2, .ref aO)]) hx hb dL_off_15 rfl hl (by decide) rfl (fun ls hl => ?_)
      refine lv_iconst (v := (2 : Int32)) hx hb dL_off_16 (by decide) ?_
      exact vx_ret (fin_i (u := ((2 : Int32), oL)) hF hx hb hr hlocks hK hP hD hS (Nat.le_of_ble_eq_true rfl) (Nat.le_of_ble_eq_true rfl) dL_off_17)
    have hF := oF c3 hF
    exact nomatch hF
abbrev RM_L_owner : Room := { frames := 7, cells := 1, slots := 6, locals := 120 }
abbrev MC_L_owner : Nat := 1
abbrev MS_L_owner : Nat := 6
abbrev wf_L_owner (K : Nat → ClassId) (aX : Nat) (aC : Nat) (aCr : Nat) (aR : Nat) (aH : Nat) (aT : Nat) (aL : Nat) (aS : Nat) (aO : Nat) (xS : Int32) (xF : Int32) (xR : Int32) (xD : Int32) (xC : Int32) (row : Nat → Int32) (v : Int32 × (Nat → Int64)) : va_W := [(aX, .inr (5, [.ref aC, .ref aR, .ref aH, .ref aT, .ref aL, .ref aS, .int xS, .int xF, .int xR, .int xD, .int xC])), (aC, .inr (0, [.ref aCr])), (aCr, .inl (K 0, 55, .inl row)), (aO, .inl (K 13, 1, .inr (.inl v.2)))]
set_option maxHeartbeats 4000000 in
set_option maxRecDepth 100000 in
theorem c_L_owner (l : Launch) (hfl : l.stackTraces = false) (D : va_G) (K : Nat → ClassId) (aX : Nat) (aC : Nat) (aCr : Nat) (aR : Nat) (aH : Nat) (aT : Nat) (aL : Nat) (aS : Nat) (aO : Nat) (xS : Int32) (xF : Int32) (xR : Int32) (xD : Int32) (xC : Int32) (row : Nat → Int32) (oL : Nat → Int64) (p2 : Int32) (v : Int32 × (Nat → Int64)) (hF : f_L_owner row oL p2 = some v) (sz : Nat) :
    (vx_Met l yL_owner wsL_owner RM_L_owner (PC D (TY K) [(aX, .inr (5, [.ref aC, .ref aR, .ref aH, .ref aT, .ref aL, .ref aS, .int xS, .int xF, .int xR, .int xD, .int xC])), (aC, .inr (0, [.ref aCr])), (aCr, .inl (K 0, 55, .inl row)), (aO, .inl (K 13, 1, .inr (.inl oL)))] [.ref aX, .int p2, .ref aO] sz) (QI D (TY K) (wf_L_owner K aX aC aCr aR aH aT aL aS aO xS xF xR xD xC row) v (va_A [(aX, .inr (5, [.ref aC, .ref aR, .ref aH, .ref aT, .ref aL, .ref aS, .int xS, .int xF, .int xR, .int xD, .int xC])), (aC, .inr (0, [.ref aCr])), (aCr, .inl (K 0, 55, .inl row)), (aO, .inl (K 13, 1, .inr (.inl oL)))] sz)) XN MC_L_owner MS_L_owner (va_A [(aX, .inr (5, [.ref aC, .ref aR, .ref aH, .ref aT, .ref aL, .ref aS, .int xS, .int xF, .int xR, .int xD, .int xC])), (aC, .inr (0, [.ref aCr])), (aCr, .inl (K 0, 55, .inl row)), (aO, .inl (K 13, 1, .inr (.inl oL)))] sz)) := by
  refine proH (Qf := fun A => QI D (TY K) (wf_L_owner K aX aC aCr aR aH aT aL aS aO xS xF xR xD xC row) v A) (XCf := fun _ => XN) (cc := cL_owner) (maxL := 4) (ret := (some .int)) (by decide +kernel) rfl (Nat.le_of_ble_eq_true rfl) ?_
  intro p e s m args below meth c hx hb hr hts hown hlocks hml htab hK A hA hE hP hD hS ls hl
  have hown : s.vm.findClass RL = some m.cls := hown
  have hl : lv_has ls 4 [(0, .ref aX), (1, .int p2), (2, .ref aO)] := hl
  rw [f_L_owner] at hF
  refine lv_aload_n hx hb dL_owner_0 rfl (lv_at hl 2 rfl) ?_
  refine lv_iconst (v := (0 : Int32)) hx hb dL_owner_1 (by decide) ?_
  refine lv_aload_n hx hb dL_owner_2 rfl (lv_at hl 0 rfl) ?_
  refine lv_iload_n hx hb dL_owner_3 rfl (lv_at hl 1 rfl) ?_
  obtain ⟨v1, hv1, hF⟩ := oB hF
  refine callX_i (wr := [(aO, .inl (K 13, 1, .inr (.inl oL)))]) (wn := [(aX, .inr (5, [.ref aC, .ref aR, .ref aH, .ref aT, .ref aL, .ref aS, .int xS, .int xF, .int xR, .int xD, .int xC])), (aC, .inr (0, [.ref aCr])), (aCr, .inl (K 0, 55, .inl row)), (aO, .inl (K 13, 1, .inr (.inl oL)))]) (vx_runV (As := [.int p2]) (rest := [.int (0 : Int32), .ref aO]) ⟨hx, hb, hml, hown, hts⟩ (c_X7_owner l hfl D K aX aC aCr aR aH aT aL aS xS xF xR xD xC row p2 v1 hv1 s.heap.size) (cwV 1 hts gL_owner_X7_owner rfl rfl rfl (by decide +kernel) ⟨(Nat.le_of_ble_eq_true rfl), (Nat.le_of_ble_eq_true rfl)⟩) (prV hE hK hP hD hS hA [0, 1, 2] rfl rfl 5 0 rfl rfl rfl) rfl rfl hl.1 rfl (lv_room (Nat.le_of_ble_eq_true rfl)) dL_owner_4 ⟨(Nat.le_of_ble_eq_true rfl), (Nat.le_of_ble_eq_true rfl)⟩) hP hD hS hA [0, 1, 2] [3] [1, 2, 3, 0] rfl rfl rfl (by decide) rfl rfl (fun hzv1 H locs hP hD hS => ?_) (fun hzv1 q9 ce H locs hP hD hS hce hcv hcl => ?_)
  · have hF := oT hzv1 hF
    refine lv_i2l (v := v1.2.1.toInt64) hx hb dL_owner_7 rfl ?_
    refine va_last hx hb hK hP hD hS 3 13 rfl rfl (inB_in (by decide : inB (0 : Int32) 1 = true)) dL_owner_8 (fun H locs hP hD hS => ?_)
    have hP : va_P D vwC7 [(aX, .inr (5, [.ref aC, .ref aR, .ref aH, .ref aT, .ref aL, .ref aS, .int xS, .int xF, .int xR, .int xD, .int xC])), (aC, .inr (0, [.ref aCr])), (aCr, .inl (K 0, 55, .inl row)), (aO, .inl (K 13, 1, .inr (.inl (vp_updL oL (0 : Int32).toNatClampNeg v1.2.1.toInt64))))] H := hP
    have hD : va_D A [(aX, .inr (5, [.ref aC, .ref aR, .ref aH, .ref aT, .ref aL, .ref aS, .int xS, .int xF, .int xR, .int xD, .int xC])), (aC, .inr (0, [.ref aCr])), (aCr, .inl (K 0, 55, .inl row)), (aO, .inl (K 13, 1, .inr (.inl (vp_updL oL (0 : Int32).toNatClampNeg v1.2.1.toInt64))))] := hD
    refine lv_goto (tgt := 18) hx hb dL_owner_9 (by decide) ?_
    refine lv_iconst (v := (0 : Int32)) hx hb dL_owner_18 (by decide) ?_
    exact vx_ret (fin_i (u := ((0 : Int32), vp_updL oL (0 : Int32).toNatClampNeg v1.2.1.toInt64)) hF hx hb hr hlocks hK hP hD hS (Nat.le_of_ble_eq_true rfl) (Nat.le_of_ble_eq_true rfl) dL_owner_19)
  · have hF := oF hzv1 hF
    by_cases c2 : v1.1 = 2
    · have hF := oT c2 hF
      rw [c2] at hcl
      refine vx_catch (E := "java/lang/IllegalArgumentException") (name := "java/lang/IllegalArgumentException") hown [] ⟨0, 9, 12, 50⟩ [⟨0, 9, 15, 61⟩] (htab.trans rfl) (fun z hz => nomatch hz) (by decide) (by decide) (hts (.classLink RL 50 "java/lang/IllegalArgumentException") (List.mem_of_getElem? (i := 1) rfl)) (va_Nw.use rfl (hE.2.2.2.2.1 _ (List.mem_of_getElem? (i := 2) rfl))) hce hcv hcl ?_
      refine lv_astore_n (lv' := [(3, .ref q9), (0, .ref aX), (1, .int p2), (2, .ref aO)]) hx hb dL_owner_12 rfl hl (by decide) rfl (fun ls hl => ?_)
      refine lv_iconst (v := (1 : Int32)) hx hb dL_owner_13 (by decide) ?_
      exact vx_ret (fin_i (u := ((1 : Int32), oL)) hF hx hb hr hlocks hK hP hD hS (Nat.le_of_ble_eq_true rfl) (Nat.le_of_ble_eq_true rfl) dL_owner_14)
    have hF := oF c2 hF
    by_cases c3 : v1.1 = 3
    · have hF := oT c3 hF
      rw [c3] at hcl
      refine vx_catch (E := "java/util/NoSuchElementException") (name := "java/util/NoSuchElementException") hown [⟨0, 9, 12, 50⟩] ⟨0, 9, 15, 61⟩ [] (htab.trans rfl) (fun z hz => by rcases List.mem_singleton.mp hz with rfl; exact Or.inr ⟨by decide, "java/lang/IllegalArgumentException", (hts (.classLink RL 50 "java/lang/IllegalArgumentException") (List.mem_of_getElem? (i := 1) rfl)), hE.2.2.2.2.2.1 _ (List.mem_of_getElem? (i := 2) rfl)⟩) (by decide) (by decide) (hts (.classLink RL 61 "java/util/NoSuchElementException") (List.mem_of_getElem? (i := 2) rfl)) (va_Nw.use rfl (hE.2.2.2.2.1 _ (List.mem_of_getElem? (i := 3) rfl))) hce hcv hcl ?_
      refine lv_astore_n (lv' := [(3, .ref q9), (0, .ref aX), (1, .int p2), (2, .ref aO)]) hx hb dL_owner_15 rfl hl (by decide) rfl (fun ls hl => ?_)
      refine lv_iconst (v := (2 : Int32)) hx hb dL_owner_16 (by decide) ?_
      exact vx_ret (fin_i (u := ((2 : Int32), oL)) hF hx hb hr hlocks hK hP hD hS (Nat.le_of_ble_eq_true rfl) (Nat.le_of_ble_eq_true rfl) dL_owner_17)
    have hF := oF c3 hF
    exact nomatch hF
abbrev RM_L_wouldWin : Room := { frames := 7, cells := 1, slots := 6, locals := 135 }
abbrev MC_L_wouldWin : Nat := 1
abbrev MS_L_wouldWin : Nat := 6
abbrev wf_L_wouldWin (K : Nat → ClassId) (aX : Nat) (aC : Nat) (aCr : Nat) (aR : Nat) (aH : Nat) (aT : Nat) (aL : Nat) (aS : Nat) (aO : Nat) (xS : Int32) (xF : Int32) (xR : Int32) (xD : Int32) (xC : Int32) (row : Nat → Int32) (v : Int32 × (Nat → Int64)) : va_W := [(aX, .inr (5, [.ref aC, .ref aR, .ref aH, .ref aT, .ref aL, .ref aS, .int xS, .int xF, .int xR, .int xD, .int xC])), (aC, .inr (0, [.ref aCr])), (aCr, .inl (K 0, 55, .inl row)), (aO, .inl (K 13, 1, .inr (.inl v.2)))]
set_option maxHeartbeats 4000000 in
set_option maxRecDepth 100000 in
theorem c_L_wouldWin (l : Launch) (hfl : l.stackTraces = false) (D : va_G) (K : Nat → ClassId) (aX : Nat) (aC : Nat) (aCr : Nat) (aR : Nat) (aH : Nat) (aT : Nat) (aL : Nat) (aS : Nat) (aO : Nat) (xS : Int32) (xF : Int32) (xR : Int32) (xD : Int32) (xC : Int32) (row : Nat → Int32) (oL : Nat → Int64) (p2 : Int32) (v : Int32 × (Nat → Int64)) (hF : f_L_wouldWin row oL p2 = some v) (sz : Nat) :
    (vx_Met l yL_wouldWin wsL_wouldWin RM_L_wouldWin (PC D (TY K) [(aX, .inr (5, [.ref aC, .ref aR, .ref aH, .ref aT, .ref aL, .ref aS, .int xS, .int xF, .int xR, .int xD, .int xC])), (aC, .inr (0, [.ref aCr])), (aCr, .inl (K 0, 55, .inl row)), (aO, .inl (K 13, 1, .inr (.inl oL)))] [.ref aX, .int p2, .ref aO] sz) (QI D (TY K) (wf_L_wouldWin K aX aC aCr aR aH aT aL aS aO xS xF xR xD xC row) v (va_A [(aX, .inr (5, [.ref aC, .ref aR, .ref aH, .ref aT, .ref aL, .ref aS, .int xS, .int xF, .int xR, .int xD, .int xC])), (aC, .inr (0, [.ref aCr])), (aCr, .inl (K 0, 55, .inl row)), (aO, .inl (K 13, 1, .inr (.inl oL)))] sz)) XN MC_L_wouldWin MS_L_wouldWin (va_A [(aX, .inr (5, [.ref aC, .ref aR, .ref aH, .ref aT, .ref aL, .ref aS, .int xS, .int xF, .int xR, .int xD, .int xC])), (aC, .inr (0, [.ref aCr])), (aCr, .inl (K 0, 55, .inl row)), (aO, .inl (K 13, 1, .inr (.inl oL)))] sz)) := by
  refine proH (Qf := fun A => QI D (TY K) (wf_L_wouldWin K aX aC aCr aR aH aT aL aS aO xS xF xR xD xC row) v A) (XCf := fun _ => XN) (cc := cL_wouldWin) (maxL := 4) (ret := (some .int)) (by decide +kernel) rfl (Nat.le_of_ble_eq_true rfl) ?_
  intro p e s m args below meth c hx hb hr hts hown hlocks hml htab hK A hA hE hP hD hS ls hl
  have hown : s.vm.findClass RL = some m.cls := hown
  have hl : lv_has ls 4 [(0, .ref aX), (1, .int p2), (2, .ref aO)] := hl
  rw [f_L_wouldWin] at hF
  refine lv_aload_n hx hb dL_wouldWin_0 rfl (lv_at hl 2 rfl) ?_
  refine lv_iconst (v := (0 : Int32)) hx hb dL_wouldWin_1 (by decide) ?_
  refine lv_aload_n hx hb dL_wouldWin_2 rfl (lv_at hl 0 rfl) ?_
  refine lv_iload_n hx hb dL_wouldWin_3 rfl (lv_at hl 1 rfl) ?_
  obtain ⟨v1, hv1, hF⟩ := oB hF
  refine callX_i (wr := [(aO, .inl (K 13, 1, .inr (.inl oL)))]) (wn := [(aX, .inr (5, [.ref aC, .ref aR, .ref aH, .ref aT, .ref aL, .ref aS, .int xS, .int xF, .int xR, .int xD, .int xC])), (aC, .inr (0, [.ref aCr])), (aCr, .inl (K 0, 55, .inl row)), (aO, .inl (K 13, 1, .inr (.inl oL)))]) (vx_runV (As := [.int p2]) (rest := [.int (0 : Int32), .ref aO]) ⟨hx, hb, hml, hown, hts⟩ (c_X7_wouldWin l hfl D K aX aC aCr aR aH aT aL aS xS xF xR xD xC row p2 v1 hv1 s.heap.size) (cwV 1 hts gL_wouldWin_X7_wouldWin rfl rfl rfl (by decide +kernel) ⟨(Nat.le_of_ble_eq_true rfl), (Nat.le_of_ble_eq_true rfl)⟩) (prV hE hK hP hD hS hA [0, 1, 2] rfl rfl 5 0 rfl rfl rfl) rfl rfl hl.1 rfl (lv_room (Nat.le_of_ble_eq_true rfl)) dL_wouldWin_4 ⟨(Nat.le_of_ble_eq_true rfl), (Nat.le_of_ble_eq_true rfl)⟩) hP hD hS hA [0, 1, 2] [3] [1, 2, 3, 0] rfl rfl rfl (by decide) rfl rfl (fun hzv1 H locs hP hD hS => ?_) (fun hzv1 q9 ce H locs hP hD hS hce hcv hcl => ?_)
  · have hF := oT hzv1 hF
    refine lv_i2l (v := v1.2.1.toInt64) hx hb dL_wouldWin_7 rfl ?_
    refine va_last hx hb hK hP hD hS 3 13 rfl rfl (inB_in (by decide : inB (0 : Int32) 1 = true)) dL_wouldWin_8 (fun H locs hP hD hS => ?_)
    have hP : va_P D vwC7 [(aX, .inr (5, [.ref aC, .ref aR, .ref aH, .ref aT, .ref aL, .ref aS, .int xS, .int xF, .int xR, .int xD, .int xC])), (aC, .inr (0, [.ref aCr])), (aCr, .inl (K 0, 55, .inl row)), (aO, .inl (K 13, 1, .inr (.inl (vp_updL oL (0 : Int32).toNatClampNeg v1.2.1.toInt64))))] H := hP
    have hD : va_D A [(aX, .inr (5, [.ref aC, .ref aR, .ref aH, .ref aT, .ref aL, .ref aS, .int xS, .int xF, .int xR, .int xD, .int xC])), (aC, .inr (0, [.ref aCr])), (aCr, .inl (K 0, 55, .inl row)), (aO, .inl (K 13, 1, .inr (.inl (vp_updL oL (0 : Int32).toNatClampNeg v1.2.1.toInt64))))] := hD
    refine lv_goto (tgt := 15) hx hb dL_wouldWin_9 (by decide) ?_
    refine lv_iconst (v := (0 : Int32)) hx hb dL_wouldWin_15 (by decide) ?_
    exact vx_ret (fin_i (u := ((0 : Int32), vp_updL oL (0 : Int32).toNatClampNeg v1.2.1.toInt64)) hF hx hb hr hlocks hK hP hD hS (Nat.le_of_ble_eq_true rfl) (Nat.le_of_ble_eq_true rfl) dL_wouldWin_16)
  · have hF := oF hzv1 hF
    by_cases c2 : v1.1 = 2
    · have hF := oT c2 hF
      rw [c2] at hcl
      refine vx_catch (E := "java/lang/IllegalArgumentException") (name := "java/lang/IllegalArgumentException") hown [] ⟨0, 9, 12, 50⟩ [] (htab.trans rfl) (fun z hz => nomatch hz) (by decide) (by decide) (hts (.classLink RL 50 "java/lang/IllegalArgumentException") (List.mem_of_getElem? (i := 1) rfl)) (va_Nw.use rfl (hE.2.2.2.2.1 _ (List.mem_of_getElem? (i := 2) rfl))) hce hcv hcl ?_
      refine lv_astore_n (lv' := [(3, .ref q9), (0, .ref aX), (1, .int p2), (2, .ref aO)]) hx hb dL_wouldWin_12 rfl hl (by decide) rfl (fun ls hl => ?_)
      refine lv_iconst (v := (1 : Int32)) hx hb dL_wouldWin_13 (by decide) ?_
      exact vx_ret (fin_i (u := ((1 : Int32), oL)) hF hx hb hr hlocks hK hP hD hS (Nat.le_of_ble_eq_true rfl) (Nat.le_of_ble_eq_true rfl) dL_wouldWin_14)
    have hF := oF c2 hF
    exact nomatch hF
abbrev RM_L_changeFor : Room := { frames := 8, cells := 2, slots := 12, locals := 158 }
abbrev MC_L_changeFor : Nat := 2
abbrev MS_L_changeFor : Nat := 12
abbrev wf_L_changeFor (K : Nat → ClassId) (aX : Nat) (aC : Nat) (aCr : Nat) (aR : Nat) (aH : Nat) (aT : Nat) (aL : Nat) (aS : Nat) (aO : Nat) (xS : Int32) (xF : Int32) (xR : Int32) (xD : Int32) (xC : Int32) (row : Nat → Int32) (v : Int32 × (Nat → Int64)) : va_W := [(aX, .inr (5, [.ref aC, .ref aR, .ref aH, .ref aT, .ref aL, .ref aS, .int xS, .int xF, .int xR, .int xD, .int xC])), (aC, .inr (0, [.ref aCr])), (aCr, .inl (K 0, 55, .inl row)), (aO, .inl (K 13, 1, .inr (.inl v.2)))]
set_option maxHeartbeats 4000000 in
set_option maxRecDepth 100000 in
theorem c_L_changeFor (l : Launch) (hfl : l.stackTraces = false) (D : va_G) (K : Nat → ClassId) (aX : Nat) (aC : Nat) (aCr : Nat) (aR : Nat) (aH : Nat) (aT : Nat) (aL : Nat) (aS : Nat) (aO : Nat) (xS : Int32) (xF : Int32) (xR : Int32) (xD : Int32) (xC : Int32) (row : Nat → Int32) (oL : Nat → Int64) (p2 : Int32) (v : Int32 × (Nat → Int64)) (hF : f_L_changeFor row oL p2 = some v) (sz : Nat) :
    (vx_Met l yL_changeFor wsL_changeFor RM_L_changeFor (PC D (TY K) [(aX, .inr (5, [.ref aC, .ref aR, .ref aH, .ref aT, .ref aL, .ref aS, .int xS, .int xF, .int xR, .int xD, .int xC])), (aC, .inr (0, [.ref aCr])), (aCr, .inl (K 0, 55, .inl row)), (aO, .inl (K 13, 1, .inr (.inl oL)))] [.ref aX, .int p2, .ref aO] sz) (QI D (TY K) (wf_L_changeFor K aX aC aCr aR aH aT aL aS aO xS xF xR xD xC row) v (va_A [(aX, .inr (5, [.ref aC, .ref aR, .ref aH, .ref aT, .ref aL, .ref aS, .int xS, .int xF, .int xR, .int xD, .int xC])), (aC, .inr (0, [.ref aCr])), (aCr, .inl (K 0, 55, .inl row)), (aO, .inl (K 13, 1, .inr (.inl oL)))] sz)) XN MC_L_changeFor MS_L_changeFor (va_A [(aX, .inr (5, [.ref aC, .ref aR, .ref aH, .ref aT, .ref aL, .ref aS, .int xS, .int xF, .int xR, .int xD, .int xC])), (aC, .inr (0, [.ref aCr])), (aCr, .inl (K 0, 55, .inl row)), (aO, .inl (K 13, 1, .inr (.inl oL)))] sz)) := by
  refine proH (Qf := fun A => QI D (TY K) (wf_L_changeFor K aX aC aCr aR aH aT aL aS aO xS xF xR xD xC row) v A) (XCf := fun _ => XN) (cc := cL_changeFor) (maxL := 4) (ret := (some .int)) (by decide +kernel) rfl (Nat.le_of_ble_eq_true rfl) ?_
  intro p e s m args below meth c hx hb hr hts hown hlocks hml htab hK A hA hE hP hD hS ls hl
  have hown : s.vm.findClass RL = some m.cls := hown
  have hl : lv_has ls 4 [(0, .ref aX), (1, .int p2), (2, .ref aO)] := hl
  rw [f_L_changeFor] at hF
  refine lv_aload_n hx hb dL_changeFor_0 rfl (lv_at hl 2 rfl) ?_
  refine lv_iconst (v := (0 : Int32)) hx hb dL_changeFor_1 (by decide) ?_
  refine lv_aload_n hx hb dL_changeFor_2 rfl (lv_at hl 0 rfl) ?_
  refine lv_iload_n hx hb dL_changeFor_3 rfl (lv_at hl 1 rfl) ?_
  obtain ⟨v1, hv1, hF⟩ := oB hF
  refine callX_i (wr := [(aO, .inl (K 13, 1, .inr (.inl oL)))]) (wn := [(aX, .inr (5, [.ref aC, .ref aR, .ref aH, .ref aT, .ref aL, .ref aS, .int xS, .int xF, .int xR, .int xD, .int xC])), (aC, .inr (0, [.ref aCr])), (aCr, .inl (K 0, 55, .inl row)), (aO, .inl (K 13, 1, .inr (.inl oL)))]) (vx_runV (As := [.int p2]) (rest := [.int (0 : Int32), .ref aO]) ⟨hx, hb, hml, hown, hts⟩ (c_X7_changeFor l hfl D K aX aC aCr aR aH aT aL aS xS xF xR xD xC row p2 v1 hv1 s.heap.size) (cwV 1 hts gL_changeFor_X7_changeFor rfl rfl rfl (by decide +kernel) ⟨(Nat.le_of_ble_eq_true rfl), (Nat.le_of_ble_eq_true rfl)⟩) (prV hE hK hP hD hS hA [0, 1, 2] rfl rfl 5 0 rfl rfl rfl) rfl rfl hl.1 rfl (lv_room (Nat.le_of_ble_eq_true rfl)) dL_changeFor_4 ⟨(Nat.le_of_ble_eq_true rfl), (Nat.le_of_ble_eq_true rfl)⟩) hP hD hS hA [0, 1, 2] [3] [1, 2, 3, 0] rfl rfl rfl (by decide) rfl rfl (fun hzv1 H locs hP hD hS => ?_) (fun hzv1 q9 ce H locs hP hD hS hce hcv hcl => ?_)
  · have hF := oT hzv1 hF
    refine lv_i2l (v := v1.2.1.toInt64) hx hb dL_changeFor_7 rfl ?_
    refine va_last hx hb hK hP hD hS 3 13 rfl rfl (inB_in (by decide : inB (0 : Int32) 1 = true)) dL_changeFor_8 (fun H locs hP hD hS => ?_)
    have hP : va_P D vwC7 [(aX, .inr (5, [.ref aC, .ref aR, .ref aH, .ref aT, .ref aL, .ref aS, .int xS, .int xF, .int xR, .int xD, .int xC])), (aC, .inr (0, [.ref aCr])), (aCr, .inl (K 0, 55, .inl row)), (aO, .inl (K 13, 1, .inr (.inl (vp_updL oL (0 : Int32).toNatClampNeg v1.2.1.toInt64))))] H := hP
    have hD : va_D A [(aX, .inr (5, [.ref aC, .ref aR, .ref aH, .ref aT, .ref aL, .ref aS, .int xS, .int xF, .int xR, .int xD, .int xC])), (aC, .inr (0, [.ref aCr])), (aCr, .inl (K 0, 55, .inl row)), (aO, .inl (K 13, 1, .inr (.inl (vp_updL oL (0 : Int32).toNatClampNeg v1.2.1.toInt64))))] := hD
    refine lv_goto (tgt := 18) hx hb dL_changeFor_9 (by decide) ?_
    refine lv_iconst (v := (0 : Int32)) hx hb dL_changeFor_18 (by decide) ?_
    exact vx_ret (fin_i (u := ((0 : Int32), vp_updL oL (0 : Int32).toNatClampNeg v1.2.1.toInt64)) hF hx hb hr hlocks hK hP hD hS (Nat.le_of_ble_eq_true rfl) (Nat.le_of_ble_eq_true rfl) dL_changeFor_19)
  · have hF := oF hzv1 hF
    by_cases c2 : v1.1 = 1
    · have hF := oT c2 hF
      rw [c2] at hcl
      refine vx_catch (E := "java/lang/IndexOutOfBoundsException") (name := "java/lang/IndexOutOfBoundsException") hown [] ⟨0, 9, 12, 48⟩ [⟨0, 9, 15, 61⟩] (htab.trans rfl) (fun z hz => nomatch hz) (by decide) (by decide) (hts (.classLink RL 48 "java/lang/IndexOutOfBoundsException") (List.mem_of_getElem? (i := 1) rfl)) (va_Nw.use rfl (hE.2.2.2.2.1 _ (List.mem_of_getElem? (i := 1) rfl))) hce hcv hcl ?_
      refine lv_astore_n (lv' := [(3, .ref q9), (0, .ref aX), (1, .int p2), (2, .ref aO)]) hx hb dL_changeFor_12 rfl hl (by decide) rfl (fun ls hl => ?_)
      refine lv_iconst (v := (1 : Int32)) hx hb dL_changeFor_13 (by decide) ?_
      exact vx_ret (fin_i (u := ((1 : Int32), oL)) hF hx hb hr hlocks hK hP hD hS (Nat.le_of_ble_eq_true rfl) (Nat.le_of_ble_eq_true rfl) dL_changeFor_14)
    have hF := oF c2 hF
    by_cases c3 : v1.1 = 3
    · have hF := oT c3 hF
      rw [c3] at hcl
      refine vx_catch (E := "java/util/NoSuchElementException") (name := "java/util/NoSuchElementException") hown [⟨0, 9, 12, 48⟩] ⟨0, 9, 15, 61⟩ [] (htab.trans rfl) (fun z hz => by rcases List.mem_singleton.mp hz with rfl; exact Or.inr ⟨by decide, "java/lang/IndexOutOfBoundsException", (hts (.classLink RL 48 "java/lang/IndexOutOfBoundsException") (List.mem_of_getElem? (i := 1) rfl)), hE.2.2.2.2.2.1 _ (List.mem_of_getElem? (i := 1) rfl)⟩) (by decide) (by decide) (hts (.classLink RL 61 "java/util/NoSuchElementException") (List.mem_of_getElem? (i := 2) rfl)) (va_Nw.use rfl (hE.2.2.2.2.1 _ (List.mem_of_getElem? (i := 3) rfl))) hce hcv hcl ?_
      refine lv_astore_n (lv' := [(3, .ref q9), (0, .ref aX), (1, .int p2), (2, .ref aO)]) hx hb dL_changeFor_15 rfl hl (by decide) rfl (fun ls hl => ?_)
      refine lv_iconst (v := (2 : Int32)) hx hb dL_changeFor_16 (by decide) ?_
      exact vx_ret (fin_i (u := ((2 : Int32), oL)) hF hx hb hr hlocks hK hP hD hS (Nat.le_of_ble_eq_true rfl) (Nat.le_of_ble_eq_true rfl) dL_changeFor_17)
    have hF := oF c3 hF
    exact nomatch hF
abbrev RM_L_bestGuess : Room := { frames := 8, cells := 1, slots := 6, locals := 141 }
abbrev MC_L_bestGuess : Nat := 1
abbrev MS_L_bestGuess : Nat := 6
abbrev wf_L_bestGuess (K : Nat → ClassId) (aX : Nat) (aC : Nat) (aCr : Nat) (aR : Nat) (aH : Nat) (aT : Nat) (aL : Nat) (aS : Nat) (aO : Nat) (xS : Int32) (xF : Int32) (xR : Int32) (xD : Int32) (xC : Int32) (row : Nat → Int32) (v : Int32 × (Nat → Int64)) : va_W := [(aX, .inr (5, [.ref aC, .ref aR, .ref aH, .ref aT, .ref aL, .ref aS, .int xS, .int xF, .int xR, .int xD, .int xC])), (aC, .inr (0, [.ref aCr])), (aCr, .inl (K 0, 55, .inl row)), (aO, .inl (K 13, 1, .inr (.inl v.2)))]
set_option maxHeartbeats 4000000 in
set_option maxRecDepth 100000 in
theorem c_L_bestGuess (l : Launch) (hfl : l.stackTraces = false) (D : va_G) (K : Nat → ClassId) (aX : Nat) (aC : Nat) (aCr : Nat) (aR : Nat) (aH : Nat) (aT : Nat) (aL : Nat) (aS : Nat) (aO : Nat) (xS : Int32) (xF : Int32) (xR : Int32) (xD : Int32) (xC : Int32) (row : Nat → Int32) (oL : Nat → Int64) (p2 : Int32) (v : Int32 × (Nat → Int64)) (hF : f_L_bestGuess row oL p2 = some v) (sz : Nat) :
    (vx_Met l yL_bestGuess wsL_bestGuess RM_L_bestGuess (PC D (TY K) [(aX, .inr (5, [.ref aC, .ref aR, .ref aH, .ref aT, .ref aL, .ref aS, .int xS, .int xF, .int xR, .int xD, .int xC])), (aC, .inr (0, [.ref aCr])), (aCr, .inl (K 0, 55, .inl row)), (aO, .inl (K 13, 1, .inr (.inl oL)))] [.ref aX, .int p2, .ref aO] sz) (QI D (TY K) (wf_L_bestGuess K aX aC aCr aR aH aT aL aS aO xS xF xR xD xC row) v (va_A [(aX, .inr (5, [.ref aC, .ref aR, .ref aH, .ref aT, .ref aL, .ref aS, .int xS, .int xF, .int xR, .int xD, .int xC])), (aC, .inr (0, [.ref aCr])), (aCr, .inl (K 0, 55, .inl row)), (aO, .inl (K 13, 1, .inr (.inl oL)))] sz)) XN MC_L_bestGuess MS_L_bestGuess (va_A [(aX, .inr (5, [.ref aC, .ref aR, .ref aH, .ref aT, .ref aL, .ref aS, .int xS, .int xF, .int xR, .int xD, .int xC])), (aC, .inr (0, [.ref aCr])), (aCr, .inl (K 0, 55, .inl row)), (aO, .inl (K 13, 1, .inr (.inl oL)))] sz)) := by
  refine proH (Qf := fun A => QI D (TY K) (wf_L_bestGuess K aX aC aCr aR aH aT aL aS aO xS xF xR xD xC row) v A) (XCf := fun _ => XN) (cc := cL_bestGuess) (maxL := 4) (ret := (some .int)) (by decide +kernel) rfl (Nat.le_of_ble_eq_true rfl) ?_
  intro p e s m args below meth c hx hb hr hts hown hlocks hml htab hK A hA hE hP hD hS ls hl
  have hown : s.vm.findClass RL = some m.cls := hown
  have hl : lv_has ls 4 [(0, .ref aX), (1, .int p2), (2, .ref aO)] := hl
  rw [f_L_bestGuess] at hF
  refine lv_aload_n hx hb dL_bestGuess_0 rfl (lv_at hl 2 rfl) ?_
  refine lv_iconst (v := (0 : Int32)) hx hb dL_bestGuess_1 (by decide) ?_
  refine lv_aload_n hx hb dL_bestGuess_2 rfl (lv_at hl 0 rfl) ?_
  refine lv_iload_n hx hb dL_bestGuess_3 rfl (lv_at hl 1 rfl) ?_
  obtain ⟨v1, hv1, hF⟩ := oB hF
  refine callX_i (wr := [(aO, .inl (K 13, 1, .inr (.inl oL)))]) (wn := [(aX, .inr (5, [.ref aC, .ref aR, .ref aH, .ref aT, .ref aL, .ref aS, .int xS, .int xF, .int xR, .int xD, .int xC])), (aC, .inr (0, [.ref aCr])), (aCr, .inl (K 0, 55, .inl row)), (aO, .inl (K 13, 1, .inr (.inl oL)))]) (vx_runV (As := [.int p2]) (rest := [.int (0 : Int32), .ref aO]) ⟨hx, hb, hml, hown, hts⟩ (c_X7_bestGuess l hfl D K aX aC aCr aR aH aT aL aS xS xF xR xD xC row p2 v1 hv1 s.heap.size) (cwV 1 hts gL_bestGuess_X7_bestGuess rfl rfl rfl (by decide +kernel) ⟨(Nat.le_of_ble_eq_true rfl), (Nat.le_of_ble_eq_true rfl)⟩) (prV hE hK hP hD hS hA [0, 1, 2] rfl rfl 5 0 rfl rfl rfl) rfl rfl hl.1 rfl (lv_room (Nat.le_of_ble_eq_true rfl)) dL_bestGuess_4 ⟨(Nat.le_of_ble_eq_true rfl), (Nat.le_of_ble_eq_true rfl)⟩) hP hD hS hA [0, 1, 2] [3] [1, 2, 3, 0] rfl rfl rfl (by decide) rfl rfl (fun hzv1 H locs hP hD hS => ?_) (fun hzv1 q9 ce H locs hP hD hS hce hcv hcl => ?_)
  · have hF := oT hzv1 hF
    refine lv_i2l (v := v1.2.1.toInt64) hx hb dL_bestGuess_7 rfl ?_
    refine va_last hx hb hK hP hD hS 3 13 rfl rfl (inB_in (by decide : inB (0 : Int32) 1 = true)) dL_bestGuess_8 (fun H locs hP hD hS => ?_)
    have hP : va_P D vwC7 [(aX, .inr (5, [.ref aC, .ref aR, .ref aH, .ref aT, .ref aL, .ref aS, .int xS, .int xF, .int xR, .int xD, .int xC])), (aC, .inr (0, [.ref aCr])), (aCr, .inl (K 0, 55, .inl row)), (aO, .inl (K 13, 1, .inr (.inl (vp_updL oL (0 : Int32).toNatClampNeg v1.2.1.toInt64))))] H := hP
    have hD : va_D A [(aX, .inr (5, [.ref aC, .ref aR, .ref aH, .ref aT, .ref aL, .ref aS, .int xS, .int xF, .int xR, .int xD, .int xC])), (aC, .inr (0, [.ref aCr])), (aCr, .inl (K 0, 55, .inl row)), (aO, .inl (K 13, 1, .inr (.inl (vp_updL oL (0 : Int32).toNatClampNeg v1.2.1.toInt64))))] := hD
    refine lv_goto (tgt := 15) hx hb dL_bestGuess_9 (by decide) ?_
    refine lv_iconst (v := (0 : Int32)) hx hb dL_bestGuess_15 (by decide) ?_
    exact vx_ret (fin_i (u := ((0 : Int32), vp_updL oL (0 : Int32).toNatClampNeg v1.2.1.toInt64)) hF hx hb hr hlocks hK hP hD hS (Nat.le_of_ble_eq_true rfl) (Nat.le_of_ble_eq_true rfl) dL_bestGuess_16)
  · have hF := oF hzv1 hF
    by_cases c2 : v1.1 = 1
    · have hF := oT c2 hF
      rw [c2] at hcl
      refine vx_catch (E := "java/lang/IndexOutOfBoundsException") (name := "java/lang/IndexOutOfBoundsException") hown [] ⟨0, 9, 12, 48⟩ [] (htab.trans rfl) (fun z hz => nomatch hz) (by decide) (by decide) (hts (.classLink RL 48 "java/lang/IndexOutOfBoundsException") (List.mem_of_getElem? (i := 1) rfl)) (va_Nw.use rfl (hE.2.2.2.2.1 _ (List.mem_of_getElem? (i := 1) rfl))) hce hcv hcl ?_
      refine lv_astore_n (lv' := [(3, .ref q9), (0, .ref aX), (1, .int p2), (2, .ref aO)]) hx hb dL_bestGuess_12 rfl hl (by decide) rfl (fun ls hl => ?_)
      refine lv_iconst (v := (1 : Int32)) hx hb dL_bestGuess_13 (by decide) ?_
      exact vx_ret (fin_i (u := ((1 : Int32), oL)) hF hx hb hr hlocks hK hP hD hS (Nat.le_of_ble_eq_true rfl) (Nat.le_of_ble_eq_true rfl) dL_bestGuess_14)
    have hF := oF c2 hF
    exact nomatch hF
abbrev RM_L_nearestFree : Room := { frames := 8, cells := 2, slots := 12, locals := 143 }
abbrev MC_L_nearestFree : Nat := 2
abbrev MS_L_nearestFree : Nat := 12
abbrev wf_L_nearestFree (K : Nat → ClassId) (aX : Nat) (aC : Nat) (aCr : Nat) (aR : Nat) (aH : Nat) (aT : Nat) (aL : Nat) (aS : Nat) (aO : Nat) (xS : Int32) (xF : Int32) (xR : Int32) (xD : Int32) (xC : Int32) (row : Nat → Int32) (v : Int32 × (Nat → Int64)) : va_W := [(aX, .inr (5, [.ref aC, .ref aR, .ref aH, .ref aT, .ref aL, .ref aS, .int xS, .int xF, .int xR, .int xD, .int xC])), (aC, .inr (0, [.ref aCr])), (aCr, .inl (K 0, 55, .inl row)), (aO, .inl (K 13, 1, .inr (.inl v.2)))]
set_option maxHeartbeats 4000000 in
set_option maxRecDepth 100000 in
theorem c_L_nearestFree (l : Launch) (hfl : l.stackTraces = false) (D : va_G) (K : Nat → ClassId) (aX : Nat) (aC : Nat) (aCr : Nat) (aR : Nat) (aH : Nat) (aT : Nat) (aL : Nat) (aS : Nat) (aO : Nat) (xS : Int32) (xF : Int32) (xR : Int32) (xD : Int32) (xC : Int32) (row : Nat → Int32) (oL : Nat → Int64) (p2 : Int32) (v : Int32 × (Nat → Int64)) (hF : f_L_nearestFree row oL p2 = some v) (sz : Nat) :
    (vx_Met l yL_nearestFree wsL_nearestFree RM_L_nearestFree (PC D (TY K) [(aX, .inr (5, [.ref aC, .ref aR, .ref aH, .ref aT, .ref aL, .ref aS, .int xS, .int xF, .int xR, .int xD, .int xC])), (aC, .inr (0, [.ref aCr])), (aCr, .inl (K 0, 55, .inl row)), (aO, .inl (K 13, 1, .inr (.inl oL)))] [.ref aX, .int p2, .ref aO] sz) (QI D (TY K) (wf_L_nearestFree K aX aC aCr aR aH aT aL aS aO xS xF xR xD xC row) v (va_A [(aX, .inr (5, [.ref aC, .ref aR, .ref aH, .ref aT, .ref aL, .ref aS, .int xS, .int xF, .int xR, .int xD, .int xC])), (aC, .inr (0, [.ref aCr])), (aCr, .inl (K 0, 55, .inl row)), (aO, .inl (K 13, 1, .inr (.inl oL)))] sz)) XN MC_L_nearestFree MS_L_nearestFree (va_A [(aX, .inr (5, [.ref aC, .ref aR, .ref aH, .ref aT, .ref aL, .ref aS, .int xS, .int xF, .int xR, .int xD, .int xC])), (aC, .inr (0, [.ref aCr])), (aCr, .inl (K 0, 55, .inl row)), (aO, .inl (K 13, 1, .inr (.inl oL)))] sz)) := by
  refine proH (Qf := fun A => QI D (TY K) (wf_L_nearestFree K aX aC aCr aR aH aT aL aS aO xS xF xR xD xC row) v A) (XCf := fun _ => XN) (cc := cL_nearestFree) (maxL := 4) (ret := (some .int)) (by decide +kernel) rfl (Nat.le_of_ble_eq_true rfl) ?_
  intro p e s m args below meth c hx hb hr hts hown hlocks hml htab hK A hA hE hP hD hS ls hl
  have hown : s.vm.findClass RL = some m.cls := hown
  have hl : lv_has ls 4 [(0, .ref aX), (1, .int p2), (2, .ref aO)] := hl
  rw [f_L_nearestFree] at hF
  refine lv_aload_n hx hb dL_nearestFree_0 rfl (lv_at hl 2 rfl) ?_
  refine lv_iconst (v := (0 : Int32)) hx hb dL_nearestFree_1 (by decide) ?_
  refine lv_aload_n hx hb dL_nearestFree_2 rfl (lv_at hl 0 rfl) ?_
  refine lv_iload_n hx hb dL_nearestFree_3 rfl (lv_at hl 1 rfl) ?_
  obtain ⟨v1, hv1, hF⟩ := oB hF
  refine callX_i (wr := [(aO, .inl (K 13, 1, .inr (.inl oL)))]) (wn := [(aX, .inr (5, [.ref aC, .ref aR, .ref aH, .ref aT, .ref aL, .ref aS, .int xS, .int xF, .int xR, .int xD, .int xC])), (aC, .inr (0, [.ref aCr])), (aCr, .inl (K 0, 55, .inl row)), (aO, .inl (K 13, 1, .inr (.inl oL)))]) (vx_runV (As := [.int p2]) (rest := [.int (0 : Int32), .ref aO]) ⟨hx, hb, hml, hown, hts⟩ (c_X7_nearestFree l hfl D K aX aC aCr aR aH aT aL aS xS xF xR xD xC row p2 v1 hv1 s.heap.size) (cwV 1 hts gL_nearestFree_X7_nearestFree rfl rfl rfl (by decide +kernel) ⟨(Nat.le_of_ble_eq_true rfl), (Nat.le_of_ble_eq_true rfl)⟩) (prV hE hK hP hD hS hA [0, 1, 2] rfl rfl 5 0 rfl rfl rfl) rfl rfl hl.1 rfl (lv_room (Nat.le_of_ble_eq_true rfl)) dL_nearestFree_4 ⟨(Nat.le_of_ble_eq_true rfl), (Nat.le_of_ble_eq_true rfl)⟩) hP hD hS hA [0, 1, 2] [3] [1, 2, 3, 0] rfl rfl rfl (by decide) rfl rfl (fun hzv1 H locs hP hD hS => ?_) (fun hzv1 q9 ce H locs hP hD hS hce hcv hcl => ?_)
  · have hF := oT hzv1 hF
    refine lv_i2l (v := v1.2.1.toInt64) hx hb dL_nearestFree_7 rfl ?_
    refine va_last hx hb hK hP hD hS 3 13 rfl rfl (inB_in (by decide : inB (0 : Int32) 1 = true)) dL_nearestFree_8 (fun H locs hP hD hS => ?_)
    have hP : va_P D vwC7 [(aX, .inr (5, [.ref aC, .ref aR, .ref aH, .ref aT, .ref aL, .ref aS, .int xS, .int xF, .int xR, .int xD, .int xC])), (aC, .inr (0, [.ref aCr])), (aCr, .inl (K 0, 55, .inl row)), (aO, .inl (K 13, 1, .inr (.inl (vp_updL oL (0 : Int32).toNatClampNeg v1.2.1.toInt64))))] H := hP
    have hD : va_D A [(aX, .inr (5, [.ref aC, .ref aR, .ref aH, .ref aT, .ref aL, .ref aS, .int xS, .int xF, .int xR, .int xD, .int xC])), (aC, .inr (0, [.ref aCr])), (aCr, .inl (K 0, 55, .inl row)), (aO, .inl (K 13, 1, .inr (.inl (vp_updL oL (0 : Int32).toNatClampNeg v1.2.1.toInt64))))] := hD
    refine lv_goto (tgt := 18) hx hb dL_nearestFree_9 (by decide) ?_
    refine lv_iconst (v := (0 : Int32)) hx hb dL_nearestFree_18 (by decide) ?_
    exact vx_ret (fin_i (u := ((0 : Int32), vp_updL oL (0 : Int32).toNatClampNeg v1.2.1.toInt64)) hF hx hb hr hlocks hK hP hD hS (Nat.le_of_ble_eq_true rfl) (Nat.le_of_ble_eq_true rfl) dL_nearestFree_19)
  · have hF := oF hzv1 hF
    by_cases c2 : v1.1 = 1
    · have hF := oT c2 hF
      rw [c2] at hcl
      refine vx_catch (E := "java/lang/IndexOutOfBoundsException") (name := "java/lang/IndexOutOfBoundsException") hown [] ⟨0, 9, 12, 48⟩ [⟨0, 9, 15, 61⟩] (htab.trans rfl) (fun z hz => nomatch hz) (by decide) (by decide) (hts (.classLink RL 48 "java/lang/IndexOutOfBoundsException") (List.mem_of_getElem? (i := 1) rfl)) (va_Nw.use rfl (hE.2.2.2.2.1 _ (List.mem_of_getElem? (i := 1) rfl))) hce hcv hcl ?_
      refine lv_astore_n (lv' := [(3, .ref q9), (0, .ref aX), (1, .int p2), (2, .ref aO)]) hx hb dL_nearestFree_12 rfl hl (by decide) rfl (fun ls hl => ?_)
      refine lv_iconst (v := (1 : Int32)) hx hb dL_nearestFree_13 (by decide) ?_
      exact vx_ret (fin_i (u := ((1 : Int32), oL)) hF hx hb hr hlocks hK hP hD hS (Nat.le_of_ble_eq_true rfl) (Nat.le_of_ble_eq_true rfl) dL_nearestFree_14)
    have hF := oF c2 hF
    by_cases c3 : v1.1 = 3
    · have hF := oT c3 hF
      rw [c3] at hcl
      refine vx_catch (E := "java/util/NoSuchElementException") (name := "java/util/NoSuchElementException") hown [⟨0, 9, 12, 48⟩] ⟨0, 9, 15, 61⟩ [] (htab.trans rfl) (fun z hz => by rcases List.mem_singleton.mp hz with rfl; exact Or.inr ⟨by decide, "java/lang/IndexOutOfBoundsException", (hts (.classLink RL 48 "java/lang/IndexOutOfBoundsException") (List.mem_of_getElem? (i := 1) rfl)), hE.2.2.2.2.2.1 _ (List.mem_of_getElem? (i := 1) rfl)⟩) (by decide) (by decide) (hts (.classLink RL 61 "java/util/NoSuchElementException") (List.mem_of_getElem? (i := 2) rfl)) (va_Nw.use rfl (hE.2.2.2.2.1 _ (List.mem_of_getElem? (i := 3) rfl))) hce hcv hcl ?_
      refine lv_astore_n (lv' := [(3, .ref q9), (0, .ref aX), (1, .int p2), (2, .ref aO)]) hx hb dL_nearestFree_15 rfl hl (by decide) rfl (fun ls hl => ?_)
      refine lv_iconst (v := (2 : Int32)) hx hb dL_nearestFree_16 (by decide) ?_
      exact vx_ret (fin_i (u := ((2 : Int32), oL)) hF hx hb hr hlocks hK hP hD hS (Nat.le_of_ble_eq_true rfl) (Nat.le_of_ble_eq_true rfl) dL_nearestFree_17)
    have hF := oF c3 hF
    exact nomatch hF
abbrev RM_L_ranked : Room := { frames := 7, cells := 1, slots := 6, locals := 139 }
abbrev MC_L_ranked : Nat := 1
abbrev MS_L_ranked : Nat := 6
abbrev wf_L_ranked (K : Nat → ClassId) (aX : Nat) (aC : Nat) (aCr : Nat) (aR : Nat) (aH : Nat) (aT : Nat) (aL : Nat) (aS : Nat) (aO : Nat) (xS : Int32) (xF : Int32) (xR : Int32) (xD : Int32) (xC : Int32) (row : Nat → Int32) (v : Int32 × (Nat → Int64)) : va_W := [(aX, .inr (5, [.ref aC, .ref aR, .ref aH, .ref aT, .ref aL, .ref aS, .int xS, .int xF, .int xR, .int xD, .int xC])), (aC, .inr (0, [.ref aCr])), (aCr, .inl (K 0, 55, .inl row)), (aO, .inl (K 13, 1, .inr (.inl v.2)))]
set_option maxHeartbeats 4000000 in
set_option maxRecDepth 100000 in
theorem c_L_ranked (l : Launch) (hfl : l.stackTraces = false) (D : va_G) (K : Nat → ClassId) (aX : Nat) (aC : Nat) (aCr : Nat) (aR : Nat) (aH : Nat) (aT : Nat) (aL : Nat) (aS : Nat) (aO : Nat) (xS : Int32) (xF : Int32) (xR : Int32) (xD : Int32) (xC : Int32) (row : Nat → Int32) (oL : Nat → Int64) (p2 : Int32) (p3 : Int32) (v : Int32 × (Nat → Int64)) (hF : f_L_ranked row oL p2 p3 = some v) (sz : Nat) :
    (vx_Met l yL_ranked wsL_ranked RM_L_ranked (PC D (TY K) [(aX, .inr (5, [.ref aC, .ref aR, .ref aH, .ref aT, .ref aL, .ref aS, .int xS, .int xF, .int xR, .int xD, .int xC])), (aC, .inr (0, [.ref aCr])), (aCr, .inl (K 0, 55, .inl row)), (aO, .inl (K 13, 1, .inr (.inl oL)))] [.ref aX, .int p2, .int p3, .ref aO] sz) (QI D (TY K) (wf_L_ranked K aX aC aCr aR aH aT aL aS aO xS xF xR xD xC row) v (va_A [(aX, .inr (5, [.ref aC, .ref aR, .ref aH, .ref aT, .ref aL, .ref aS, .int xS, .int xF, .int xR, .int xD, .int xC])), (aC, .inr (0, [.ref aCr])), (aCr, .inl (K 0, 55, .inl row)), (aO, .inl (K 13, 1, .inr (.inl oL)))] sz)) XN MC_L_ranked MS_L_ranked (va_A [(aX, .inr (5, [.ref aC, .ref aR, .ref aH, .ref aT, .ref aL, .ref aS, .int xS, .int xF, .int xR, .int xD, .int xC])), (aC, .inr (0, [.ref aCr])), (aCr, .inl (K 0, 55, .inl row)), (aO, .inl (K 13, 1, .inr (.inl oL)))] sz)) := by
  refine proH (Qf := fun A => QI D (TY K) (wf_L_ranked K aX aC aCr aR aH aT aL aS aO xS xF xR xD xC row) v A) (XCf := fun _ => XN) (cc := cL_ranked) (maxL := 5) (ret := (some .int)) (by decide +kernel) rfl (Nat.le_of_ble_eq_true rfl) ?_
  intro p e s m args below meth c hx hb hr hts hown hlocks hml htab hK A hA hE hP hD hS ls hl
  have hown : s.vm.findClass RL = some m.cls := hown
  have hl : lv_has ls 5 [(0, .ref aX), (1, .int p2), (2, .int p3), (3, .ref aO)] := hl
  rw [f_L_ranked] at hF
  refine lv_aload_n hx hb dL_ranked_0 rfl (lv_at hl 3 rfl) ?_
  refine lv_iconst (v := (0 : Int32)) hx hb dL_ranked_1 (by decide) ?_
  refine lv_aload_n hx hb dL_ranked_2 rfl (lv_at hl 0 rfl) ?_
  refine lv_iload_n hx hb dL_ranked_3 rfl (lv_at hl 1 rfl) ?_
  refine lv_iload_n hx hb dL_ranked_4 rfl (lv_at hl 2 rfl) ?_
  obtain ⟨v1, hv1, hF⟩ := oB hF
  refine callX_i (wr := [(aO, .inl (K 13, 1, .inr (.inl oL)))]) (wn := [(aX, .inr (5, [.ref aC, .ref aR, .ref aH, .ref aT, .ref aL, .ref aS, .int xS, .int xF, .int xR, .int xD, .int xC])), (aC, .inr (0, [.ref aCr])), (aCr, .inl (K 0, 55, .inl row)), (aO, .inl (K 13, 1, .inr (.inl oL)))]) (vx_runV (As := [.int p2, .int p3]) (rest := [.int (0 : Int32), .ref aO]) ⟨hx, hb, hml, hown, hts⟩ (c_X7_ranked l hfl D K aX aC aCr aR aH aT aL aS xS xF xR xD xC row p2 p3 v1 hv1 s.heap.size) (cwV 2 hts gL_ranked_X7_ranked rfl rfl rfl (by decide +kernel) ⟨(Nat.le_of_ble_eq_true rfl), (Nat.le_of_ble_eq_true rfl)⟩) (prV hE hK hP hD hS hA [0, 1, 2] rfl rfl 5 0 rfl rfl rfl) rfl rfl hl.1 rfl (lv_room (Nat.le_of_ble_eq_true rfl)) dL_ranked_5 ⟨(Nat.le_of_ble_eq_true rfl), (Nat.le_of_ble_eq_true rfl)⟩) hP hD hS hA [0, 1, 2] [3] [1, 2, 3, 0] rfl rfl rfl (by decide) rfl rfl (fun hzv1 H locs hP hD hS => ?_) (fun hzv1 q9 ce H locs hP hD hS hce hcv hcl => ?_)
  · have hF := oT hzv1 hF
    refine lv_i2l (v := v1.2.1.toInt64) hx hb dL_ranked_8 rfl ?_
    refine va_last hx hb hK hP hD hS 3 13 rfl rfl (inB_in (by decide : inB (0 : Int32) 1 = true)) dL_ranked_9 (fun H locs hP hD hS => ?_)
    have hP : va_P D vwC7 [(aX, .inr (5, [.ref aC, .ref aR, .ref aH, .ref aT, .ref aL, .ref aS, .int xS, .int xF, .int xR, .int xD, .int xC])), (aC, .inr (0, [.ref aCr])), (aCr, .inl (K 0, 55, .inl row)), (aO, .inl (K 13, 1, .inr (.inl (vp_updL oL (0 : Int32).toNatClampNeg v1.2.1.toInt64))))] H := hP
    have hD : va_D A [(aX, .inr (5, [.ref aC, .ref aR, .ref aH, .ref aT, .ref aL, .ref aS, .int xS, .int xF, .int xR, .int xD, .int xC])), (aC, .inr (0, [.ref aCr])), (aCr, .inl (K 0, 55, .inl row)), (aO, .inl (K 13, 1, .inr (.inl (vp_updL oL (0 : Int32).toNatClampNeg v1.2.1.toInt64))))] := hD
    refine lv_goto (tgt := 21) hx hb dL_ranked_10 (by decide) ?_
    refine lv_iconst (v := (0 : Int32)) hx hb dL_ranked_21 (by decide) ?_
    exact vx_ret (fin_i (u := ((0 : Int32), vp_updL oL (0 : Int32).toNatClampNeg v1.2.1.toInt64)) hF hx hb hr hlocks hK hP hD hS (Nat.le_of_ble_eq_true rfl) (Nat.le_of_ble_eq_true rfl) dL_ranked_22)
  · have hF := oF hzv1 hF
    by_cases c2 : v1.1 = 2
    · have hF := oT c2 hF
      rw [c2] at hcl
      refine vx_catch (E := "java/lang/IllegalArgumentException") (name := "java/lang/IllegalArgumentException") hown [] ⟨0, 10, 13, 50⟩ [⟨0, 10, 17, 61⟩] (htab.trans rfl) (fun z hz => nomatch hz) (by decide) (by decide) (hts (.classLink RL 50 "java/lang/IllegalArgumentException") (List.mem_of_getElem? (i := 1) rfl)) (va_Nw.use rfl (hE.2.2.2.2.1 _ (List.mem_of_getElem? (i := 2) rfl))) hce hcv hcl ?_
      refine lv_astore (lv' := [(4, .ref q9), (0, .ref aX), (1, .int p2), (2, .int p3), (3, .ref aO)]) hx hb dL_ranked_13 hl (by decide) rfl (fun ls hl => ?_)
      refine lv_iconst (v := (1 : Int32)) hx hb dL_ranked_15 (by decide) ?_
      exact vx_ret (fin_i (u := ((1 : Int32), oL)) hF hx hb hr hlocks hK hP hD hS (Nat.le_of_ble_eq_true rfl) (Nat.le_of_ble_eq_true rfl) dL_ranked_16)
    have hF := oF c2 hF
    by_cases c3 : v1.1 = 3
    · have hF := oT c3 hF
      rw [c3] at hcl
      refine vx_catch (E := "java/util/NoSuchElementException") (name := "java/util/NoSuchElementException") hown [⟨0, 10, 13, 50⟩] ⟨0, 10, 17, 61⟩ [] (htab.trans rfl) (fun z hz => by rcases List.mem_singleton.mp hz with rfl; exact Or.inr ⟨by decide, "java/lang/IllegalArgumentException", (hts (.classLink RL 50 "java/lang/IllegalArgumentException") (List.mem_of_getElem? (i := 1) rfl)), hE.2.2.2.2.2.1 _ (List.mem_of_getElem? (i := 2) rfl)⟩) (by decide) (by decide) (hts (.classLink RL 61 "java/util/NoSuchElementException") (List.mem_of_getElem? (i := 2) rfl)) (va_Nw.use rfl (hE.2.2.2.2.1 _ (List.mem_of_getElem? (i := 3) rfl))) hce hcv hcl ?_
      refine lv_astore (lv' := [(4, .ref q9), (0, .ref aX), (1, .int p2), (2, .int p3), (3, .ref aO)]) hx hb dL_ranked_17 hl (by decide) rfl (fun ls hl => ?_)
      refine lv_iconst (v := (2 : Int32)) hx hb dL_ranked_19 (by decide) ?_
      exact vx_ret (fin_i (u := ((2 : Int32), oL)) hF hx hb hr hlocks hK hP hD hS (Nat.le_of_ble_eq_true rfl) (Nat.le_of_ble_eq_true rfl) dL_ranked_20)
    have hF := oF c3 hF
    exact nomatch hF
abbrev RM_L_weather : Room := { frames := 7, cells := 1, slots := 6, locals := 119 }
abbrev MC_L_weather : Nat := 1
abbrev MS_L_weather : Nat := 6
abbrev wf_L_weather (K : Nat → ClassId) (aX : Nat) (aC : Nat) (aCr : Nat) (aR : Nat) (aH : Nat) (aT : Nat) (aL : Nat) (aS : Nat) (aO : Nat) (xS : Int32) (xF : Int32) (xR : Int32) (xD : Int32) (xC : Int32) (row : Nat → Int32) (v : Int32 × (Nat → Int64)) : va_W := [(aX, .inr (5, [.ref aC, .ref aR, .ref aH, .ref aT, .ref aL, .ref aS, .int xS, .int xF, .int xR, .int xD, .int xC])), (aC, .inr (0, [.ref aCr])), (aCr, .inl (K 0, 55, .inl row)), (aO, .inl (K 13, 1, .inr (.inl v.2)))]
set_option maxHeartbeats 4000000 in
set_option maxRecDepth 100000 in
theorem c_L_weather (l : Launch) (hfl : l.stackTraces = false) (D : va_G) (K : Nat → ClassId) (aX : Nat) (aC : Nat) (aCr : Nat) (aR : Nat) (aH : Nat) (aT : Nat) (aL : Nat) (aS : Nat) (aO : Nat) (xS : Int32) (xF : Int32) (xR : Int32) (xD : Int32) (xC : Int32) (row : Nat → Int32) (oL : Nat → Int64) (p2 : Int32) (v : Int32 × (Nat → Int64)) (hF : f_L_weather row oL p2 = some v) (sz : Nat) :
    (vx_Met l yL_weather wsL_weather RM_L_weather (PC D (TY K) [(aX, .inr (5, [.ref aC, .ref aR, .ref aH, .ref aT, .ref aL, .ref aS, .int xS, .int xF, .int xR, .int xD, .int xC])), (aC, .inr (0, [.ref aCr])), (aCr, .inl (K 0, 55, .inl row)), (aO, .inl (K 13, 1, .inr (.inl oL)))] [.ref aX, .int p2, .ref aO] sz) (QI D (TY K) (wf_L_weather K aX aC aCr aR aH aT aL aS aO xS xF xR xD xC row) v (va_A [(aX, .inr (5, [.ref aC, .ref aR, .ref aH, .ref aT, .ref aL, .ref aS, .int xS, .int xF, .int xR, .int xD, .int xC])), (aC, .inr (0, [.ref aCr])), (aCr, .inl (K 0, 55, .inl row)), (aO, .inl (K 13, 1, .inr (.inl oL)))] sz)) XN MC_L_weather MS_L_weather (va_A [(aX, .inr (5, [.ref aC, .ref aR, .ref aH, .ref aT, .ref aL, .ref aS, .int xS, .int xF, .int xR, .int xD, .int xC])), (aC, .inr (0, [.ref aCr])), (aCr, .inl (K 0, 55, .inl row)), (aO, .inl (K 13, 1, .inr (.inl oL)))] sz)) := by
  refine proH (Qf := fun A => QI D (TY K) (wf_L_weather K aX aC aCr aR aH aT aL aS aO xS xF xR xD xC row) v A) (XCf := fun _ => XN) (cc := cL_weather) (maxL := 4) (ret := (some .int)) (by decide +kernel) rfl (Nat.le_of_ble_eq_true rfl) ?_
  intro p e s m args below meth c hx hb hr hts hown hlocks hml htab hK A hA hE hP hD hS ls hl
  have hown : s.vm.findClass RL = some m.cls := hown
  have hl : lv_has ls 4 [(0, .ref aX), (1, .int p2), (2, .ref aO)] := hl
  rw [f_L_weather] at hF
  refine lv_aload_n hx hb dL_weather_0 rfl (lv_at hl 2 rfl) ?_
  refine lv_iconst (v := (0 : Int32)) hx hb dL_weather_1 (by decide) ?_
  refine lv_aload_n hx hb dL_weather_2 rfl (lv_at hl 0 rfl) ?_
  refine lv_iload_n hx hb dL_weather_3 rfl (lv_at hl 1 rfl) ?_
  obtain ⟨v1, hv1, hF⟩ := oB hF
  refine callX_i (wr := [(aO, .inl (K 13, 1, .inr (.inl oL)))]) (wn := [(aX, .inr (5, [.ref aC, .ref aR, .ref aH, .ref aT, .ref aL, .ref aS, .int xS, .int xF, .int xR, .int xD, .int xC])), (aC, .inr (0, [.ref aCr])), (aCr, .inl (K 0, 55, .inl row)), (aO, .inl (K 13, 1, .inr (.inl oL)))]) (vx_runV (As := [.int p2]) (rest := [.int (0 : Int32), .ref aO]) ⟨hx, hb, hml, hown, hts⟩ (c_X7_weather l hfl D K aX aC aCr aR aH aT aL aS xS xF xR xD xC row p2 v1 hv1 s.heap.size) (cwV 1 hts gL_weather_X7_weather rfl rfl rfl (by decide +kernel) ⟨(Nat.le_of_ble_eq_true rfl), (Nat.le_of_ble_eq_true rfl)⟩) (prV hE hK hP hD hS hA [0, 1, 2] rfl rfl 5 0 rfl rfl rfl) rfl rfl hl.1 rfl (lv_room (Nat.le_of_ble_eq_true rfl)) dL_weather_4 ⟨(Nat.le_of_ble_eq_true rfl), (Nat.le_of_ble_eq_true rfl)⟩) hP hD hS hA [0, 1, 2] [3] [1, 2, 3, 0] rfl rfl rfl (by decide) rfl rfl (fun hzv1 H locs hP hD hS => ?_) (fun hzv1 q9 ce H locs hP hD hS hce hcv hcl => ?_)
  · have hF := oT hzv1 hF
    refine lv_i2l (v := v1.2.1.toInt64) hx hb dL_weather_7 rfl ?_
    refine va_last hx hb hK hP hD hS 3 13 rfl rfl (inB_in (by decide : inB (0 : Int32) 1 = true)) dL_weather_8 (fun H locs hP hD hS => ?_)
    have hP : va_P D vwC7 [(aX, .inr (5, [.ref aC, .ref aR, .ref aH, .ref aT, .ref aL, .ref aS, .int xS, .int xF, .int xR, .int xD, .int xC])), (aC, .inr (0, [.ref aCr])), (aCr, .inl (K 0, 55, .inl row)), (aO, .inl (K 13, 1, .inr (.inl (vp_updL oL (0 : Int32).toNatClampNeg v1.2.1.toInt64))))] H := hP
    have hD : va_D A [(aX, .inr (5, [.ref aC, .ref aR, .ref aH, .ref aT, .ref aL, .ref aS, .int xS, .int xF, .int xR, .int xD, .int xC])), (aC, .inr (0, [.ref aCr])), (aCr, .inl (K 0, 55, .inl row)), (aO, .inl (K 13, 1, .inr (.inl (vp_updL oL (0 : Int32).toNatClampNeg v1.2.1.toInt64))))] := hD
    refine lv_goto (tgt := 15) hx hb dL_weather_9 (by decide) ?_
    refine lv_iconst (v := (0 : Int32)) hx hb dL_weather_15 (by decide) ?_
    exact vx_ret (fin_i (u := ((0 : Int32), vp_updL oL (0 : Int32).toNatClampNeg v1.2.1.toInt64)) hF hx hb hr hlocks hK hP hD hS (Nat.le_of_ble_eq_true rfl) (Nat.le_of_ble_eq_true rfl) dL_weather_16)
  · have hF := oF hzv1 hF
    by_cases c2 : v1.1 = 2
    · have hF := oT c2 hF
      rw [c2] at hcl
      refine vx_catch (E := "java/lang/IllegalArgumentException") (name := "java/lang/IllegalArgumentException") hown [] ⟨0, 9, 12, 50⟩ [] (htab.trans rfl) (fun z hz => nomatch hz) (by decide) (by decide) (hts (.classLink RL 50 "java/lang/IllegalArgumentException") (List.mem_of_getElem? (i := 1) rfl)) (va_Nw.use rfl (hE.2.2.2.2.1 _ (List.mem_of_getElem? (i := 2) rfl))) hce hcv hcl ?_
      refine lv_astore_n (lv' := [(3, .ref q9), (0, .ref aX), (1, .int p2), (2, .ref aO)]) hx hb dL_weather_12 rfl hl (by decide) rfl (fun ls hl => ?_)
      refine lv_iconst (v := (1 : Int32)) hx hb dL_weather_13 (by decide) ?_
      exact vx_ret (fin_i (u := ((1 : Int32), oL)) hF hx hb hr hlocks hK hP hD hS (Nat.le_of_ble_eq_true rfl) (Nat.le_of_ble_eq_true rfl) dL_weather_14)
    have hF := oF c2 hF
    exact nomatch hF
abbrev RM_L_append : Room := { frames := 7, cells := 1, slots := 6, locals := 119 }
abbrev MC_L_append : Nat := 1
abbrev MS_L_append : Nat := 6
abbrev wf_L_append (K : Nat → ClassId) (aX : Nat) (aC : Nat) (aR : Nat) (aH : Nat) (aT : Nat) (aTc : Nat) (aTp : Nat) (aL : Nat) (aS : Nat) (aO : Nat) (xS : Int32) (xF : Int32) (xR : Int32) (xD : Int32) (xC : Int32) (tS : Int32) (tQ : Int32) (tF : Int32) (v : Int32 × Int32 × (Nat → Int32) × (Nat → Int64)) : va_W := [(aX, .inr (5, [.ref aC, .ref aR, .ref aH, .ref aT, .ref aL, .ref aS, .int xS, .int xF, .int xR, .int xD, .int xC])), (aT, .inr (1, [.ref aTc, .ref aTp, .int v.2.1, .int tS, .int tQ, .int tF])), (aTc, .inl (K 2, 60, .inl v.2.2.1)), (aO, .inl (K 13, 1, .inr (.inl v.2.2.2)))]
set_option maxHeartbeats 4000000 in
set_option maxRecDepth 100000 in
theorem c_L_append (l : Launch) (hfl : l.stackTraces = false) (D : va_G) (K : Nat → ClassId) (aX : Nat) (aC : Nat) (aR : Nat) (aH : Nat) (aT : Nat) (aTc : Nat) (aTp : Nat) (aL : Nat) (aS : Nat) (aO : Nat) (xS : Int32) (xF : Int32) (xR : Int32) (xD : Int32) (xC : Int32) (tL : Int32) (tS : Int32) (tQ : Int32) (tF : Int32) (tC : Nat → Int32) (oL : Nat → Int64) (p2 : Int32) (v : Int32 × Int32 × (Nat → Int32) × (Nat → Int64)) (hF : f_L_append tL tC oL p2 = some v) (sz : Nat) :
    (vx_Met l yL_append wsL_append RM_L_append (PC D (TY K) [(aX, .inr (5, [.ref aC, .ref aR, .ref aH, .ref aT, .ref aL, .ref aS, .int xS, .int xF, .int xR, .int xD, .int xC])), (aT, .inr (1, [.ref aTc, .ref aTp, .int tL, .int tS, .int tQ, .int tF])), (aTc, .inl (K 2, 60, .inl tC)), (aO, .inl (K 13, 1, .inr (.inl oL)))] [.ref aX, .int p2, .ref aO] sz) (QI D (TY K) (wf_L_append K aX aC aR aH aT aTc aTp aL aS aO xS xF xR xD xC tS tQ tF) v (va_A [(aX, .inr (5, [.ref aC, .ref aR, .ref aH, .ref aT, .ref aL, .ref aS, .int xS, .int xF, .int xR, .int xD, .int xC])), (aT, .inr (1, [.ref aTc, .ref aTp, .int tL, .int tS, .int tQ, .int tF])), (aTc, .inl (K 2, 60, .inl tC)), (aO, .inl (K 13, 1, .inr (.inl oL)))] sz)) XN MC_L_append MS_L_append (va_A [(aX, .inr (5, [.ref aC, .ref aR, .ref aH, .ref aT, .ref aL, .ref aS, .int xS, .int xF, .int xR, .int xD, .int xC])), (aT, .inr (1, [.ref aTc, .ref aTp, .int tL, .int tS, .int tQ, .int tF])), (aTc, .inl (K 2, 60, .inl tC)), (aO, .inl (K 13, 1, .inr (.inl oL)))] sz)) := by
  refine proH (Qf := fun A => QI D (TY K) (wf_L_append K aX aC aR aH aT aTc aTp aL aS aO xS xF xR xD xC tS tQ tF) v A) (XCf := fun _ => XN) (cc := cL_append) (maxL := 4) (ret := (some .int)) (by decide +kernel) rfl (Nat.le_of_ble_eq_true rfl) ?_
  intro p e s m args below meth c hx hb hr hts hown hlocks hml htab hK A hA hE hP hD hS ls hl
  have hown : s.vm.findClass RL = some m.cls := hown
  have hl : lv_has ls 4 [(0, .ref aX), (1, .int p2), (2, .ref aO)] := hl
  rw [f_L_append] at hF
  refine lv_aload_n hx hb dL_append_0 rfl (lv_at hl 2 rfl) ?_
  refine lv_iconst (v := (0 : Int32)) hx hb dL_append_1 (by decide) ?_
  refine lv_aload_n hx hb dL_append_2 rfl (lv_at hl 0 rfl) ?_
  refine lv_iload_n hx hb dL_append_3 rfl (lv_at hl 1 rfl) ?_
  obtain ⟨v1, hv1, hF⟩ := oB hF
  refine callX_i (wr := [(aO, .inl (K 13, 1, .inr (.inl oL)))]) (wn := [(aX, .inr (5, [.ref aC, .ref aR, .ref aH, .ref aT, .ref aL, .ref aS, .int xS, .int xF, .int xR, .int xD, .int xC])), (aT, .inr (1, [.ref aTc, .ref aTp, .int v1.2.2.1, .int tS, .int tQ, .int tF])), (aTc, .inl (K 2, 60, .inl v1.2.2.2)), (aO, .inl (K 13, 1, .inr (.inl oL)))]) (vx_runV (As := [.int p2]) (rest := [.int (0 : Int32), .ref aO]) ⟨hx, hb, hml, hown, hts⟩ (c_X7_append l hfl D K aX aC aR aH aT aTc aTp aL aS xS xF xR xD xC tL tS tQ tF tC p2 v1 hv1 s.heap.size) (cwV 1 hts gL_append_X7_append rfl rfl rfl (by decide +kernel) ⟨(Nat.le_of_ble_eq_true rfl), (Nat.le_of_ble_eq_true rfl)⟩) (prV hE hK hP hD hS hA [0, 1, 2] rfl rfl 5 0 rfl rfl rfl) rfl rfl hl.1 rfl (lv_room (Nat.le_of_ble_eq_true rfl)) dL_append_4 ⟨(Nat.le_of_ble_eq_true rfl), (Nat.le_of_ble_eq_true rfl)⟩) hP hD hS hA [0, 1, 2] [3] [1, 2, 3, 0] rfl rfl rfl (by decide) rfl rfl (fun hzv1 H locs hP hD hS => ?_) (fun hzv1 q9 ce H locs hP hD hS hce hcv hcl => ?_)
  · have hF := oT hzv1 hF
    refine lv_i2l (v := v1.2.1.toInt64) hx hb dL_append_7 rfl ?_
    refine va_last hx hb hK hP hD hS 3 13 rfl rfl (inB_in (by decide : inB (0 : Int32) 1 = true)) dL_append_8 (fun H locs hP hD hS => ?_)
    have hP : va_P D vwC7 [(aX, .inr (5, [.ref aC, .ref aR, .ref aH, .ref aT, .ref aL, .ref aS, .int xS, .int xF, .int xR, .int xD, .int xC])), (aT, .inr (1, [.ref aTc, .ref aTp, .int v1.2.2.1, .int tS, .int tQ, .int tF])), (aTc, .inl (K 2, 60, .inl v1.2.2.2)), (aO, .inl (K 13, 1, .inr (.inl (vp_updL oL (0 : Int32).toNatClampNeg v1.2.1.toInt64))))] H := hP
    have hD : va_D A [(aX, .inr (5, [.ref aC, .ref aR, .ref aH, .ref aT, .ref aL, .ref aS, .int xS, .int xF, .int xR, .int xD, .int xC])), (aT, .inr (1, [.ref aTc, .ref aTp, .int v1.2.2.1, .int tS, .int tQ, .int tF])), (aTc, .inl (K 2, 60, .inl v1.2.2.2)), (aO, .inl (K 13, 1, .inr (.inl (vp_updL oL (0 : Int32).toNatClampNeg v1.2.1.toInt64))))] := hD
    refine lv_goto (tgt := 15) hx hb dL_append_9 (by decide) ?_
    refine lv_iconst (v := (0 : Int32)) hx hb dL_append_15 (by decide) ?_
    exact vx_ret (fin_i (u := ((0 : Int32), (v1.2.2.1, v1.2.2.2, vp_updL oL (0 : Int32).toNatClampNeg v1.2.1.toInt64))) hF hx hb hr hlocks hK hP hD hS (Nat.le_of_ble_eq_true rfl) (Nat.le_of_ble_eq_true rfl) dL_append_16)
  · have hF := oF hzv1 hF
    by_cases c2 : v1.1 = 4
    · have hF := oT c2 hF
      rw [c2] at hcl
      refine vx_catch (E := "java/lang/IllegalStateException") (name := "java/lang/IllegalStateException") hown [] ⟨0, 9, 12, 88⟩ [] (htab.trans rfl) (fun z hz => nomatch hz) (by decide) (by decide) (hts (.classLink RL 88 "java/lang/IllegalStateException") (List.mem_of_getElem? (i := 1) rfl)) (va_Nw.use rfl (hE.2.2.2.2.1 _ (List.mem_of_getElem? (i := 4) rfl))) hce hcv hcl ?_
      refine lv_astore_n (lv' := [(3, .ref q9), (0, .ref aX), (1, .int p2), (2, .ref aO)]) hx hb dL_append_12 rfl hl (by decide) rfl (fun ls hl => ?_)
      refine lv_iconst (v := (1 : Int32)) hx hb dL_append_13 (by decide) ?_
      exact vx_ret (fin_i (u := ((1 : Int32), (v1.2.2.1, v1.2.2.2, oL))) hF hx hb hr hlocks hK hP hD hS (Nat.le_of_ble_eq_true rfl) (Nat.le_of_ble_eq_true rfl) dL_append_14)
    have hF := oF c2 hF
    exact nomatch hF
