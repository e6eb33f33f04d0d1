abbrev RM_L_at : Room := { frames := 0, cells := 0, slots := 0, locals := 0 }
abbrev MC_L_at : Nat := 0
abbrev MS_L_at : Nat := 0
abbrev wf_L_at (K : Nat → ClassId)   (v : Int32 × Unit) : va_W := []
set_option maxHeartbeats 4000000 in
set_option maxRecDepth 100000 in
theorem c_L_at (l : Launch) (bX LX : Nat) (xX : Nat → Int32) (D : va_G) (K : Nat → ClassId)   (p2 : Int32) (v : Int32 × Unit) (hF : f_L_at LX xX p2 = some v) (sz : Nat) :
    (Met l yL_at wsL_at RM_L_at (PCE (ExX bX LX xX) D (TY K) [] [.ref bX, .int p2] sz) (QI D (TY K) (wf_L_at K) v (va_A [] sz)) MC_L_at MS_L_at (va_A [] sz)) := by
  refine proE (Qf := fun A => QI D (TY K) (wf_L_at K) v A) (cc := cL_at) (maxL := 2) (ret := (some .int)) (by decide +kernel) rfl (Nat.le_of_ble_eq_true rfl) ?_
  intro p e s m args below meth c hx hb hr hts hown hlocks hml hK A hA hE hX hP hD hS ls hl
  have hown : s.vm.findClass RL = some m.cls := hown
  have hl : lv_has ls 2 [(0, .ref bX), (1, .int p2)] := hl
  rw [f_L_at] at hF
  refine lv_iload_n hx hb dL_at_0 rfl (lv_at hl 1 rfl) ?_
  refine lv_aload_n hx hb dL_at_1 rfl (lv_at hl 0 rfl) ?_
  refine va_slen hx hb hX.1 hX.2.1 hX.2.2 hS dL_at_2 ?_
  refine lv_icmp_ge (tgt := 12) hx hb dL_at_3 (by decide) (fun c1 => ?_) (fun c1 => ?_)
  · have hF := oT c1 hF
    refine lv_iconst (v := (0 : Int32)) hx hb dL_at_12 (by decide) ?_
    exact fin_i (u := ((0 : Int32), ())) hF hx hb hr hlocks hK hP hD hS (Nat.le_of_ble_eq_true rfl) (Nat.le_of_ble_eq_true rfl) dL_at_13
  · have hF := oF c1 hF
    refine lv_aload_n hx hb dL_at_6 rfl (lv_at hl 0 rfl) ?_
    refine lv_iload_n hx hb dL_at_7 rfl (lv_at hl 1 rfl) ?_
    obtain ⟨g2, hF⟩ := oG hF
    refine va_sld hx hb hX.1 hX.2.1 hX.2.2 hS (inB_in g2) dL_at_8 ?_
    refine lv_goto (tgt := 13) hx hb dL_at_9 (by decide) ?_
    exact fin_i (u := (xX p2.toNatClampNeg, ())) hF hx hb hr hlocks hK hP hD hS (Nat.le_of_ble_eq_true rfl) (Nat.le_of_ble_eq_true rfl) dL_at_13
abbrev RM_L_some : Room := { frames := 0, cells := 0, slots := 0, locals := 0 }
abbrev MC_L_some : Nat := 0
abbrev MS_L_some : Nat := 0
abbrev wf_L_some (K : Nat → ClassId)   (v : Int32 × Unit) : va_W := []
set_option maxHeartbeats 4000000 in
set_option maxRecDepth 100000 in
theorem c_L_some (l : Launch) (D : va_G) (K : Nat → ClassId)   (p1 : Int32) (p2 : Int32) (v : Int32 × Unit) (hF : f_L_some p1 p2 = some v) (sz : Nat) :
    (Met l yL_some wsL_some RM_L_some (PC D (TY K) [] [.int p1, .int p2] sz) (QI D (TY K) (wf_L_some K) v (va_A [] sz)) MC_L_some MS_L_some (va_A [] sz)) := by
  refine pro (Qf := fun A => QI D (TY K) (wf_L_some K) v A) (cc := cL_some) (maxL := 3) (ret := (some .int)) (by decide +kernel) rfl (Nat.le_of_ble_eq_true rfl) ?_
  intro p e s m args below meth c hx hb hr hts hown hlocks hml hini hK A hA hE hP hD hS ls hl
  have hown : s.vm.findClass RL = some m.cls := hown
  have hl : lv_has ls 3 [(0, .int p1), (1, .int p2)] := hl
  rw [f_L_some] at hF
  refine lv_iload_n hx hb dL_some_0 rfl (lv_at hl 0 rfl) ?_
  refine lv_iload_n hx hb dL_some_1 rfl (lv_at hl 1 rfl) ?_
  obtain ⟨g1, hF⟩ := oG hF
  refine lv_irem hx hb dL_some_2 (nz_ne g1) ?_
  refine lv_istore_n (lv' := [(2, .int (p1 - p1 / p2 * p2)), (0, .int p1), (1, .int p2)]) hx hb dL_some_3 rfl hl (by decide) rfl (fun ls hl => ?_)
  refine lv_iload_n hx hb dL_some_4 rfl (lv_at hl 0 rfl) ?_
  refine lv_if_ge (tgt := 14) hx hb dL_some_5 (by decide) (fun c2 => ?_) (fun c2 => ?_)
  · have hF := oT c2 hF
    refine lv_iload_n hx hb dL_some_14 rfl (lv_at hl 0 rfl) ?_
    exact fin_i (u := (p1 - p1 / p2 * p2, ())) hF hx hb hr hlocks hK hP hD hS (Nat.le_of_ble_eq_true rfl) (Nat.le_of_ble_eq_true rfl) dL_some_15
  · have hF := oF c2 hF
    refine lv_iload_n hx hb dL_some_8 rfl (lv_at hl 0 rfl) ?_
    refine lv_iload_n hx hb dL_some_9 rfl (lv_at hl 2 rfl) ?_
    refine lv_iadd hx hb dL_some_10 ?_
    refine lv_goto (tgt := 15) hx hb dL_some_11 (by decide) ?_
    exact fin_i (u := ((p1 - p1 / p2 * p2) + p2, ())) hF hx hb hr hlocks hK hP hD hS (Nat.le_of_ble_eq_true rfl) (Nat.le_of_ble_eq_true rfl) dL_some_15
abbrev RM_L_join : Room := { frames := 8, cells := 1, slots := 6, locals := 209 }
abbrev MC_L_join : Nat := 1
abbrev MS_L_join : Nat := 6
abbrev wf_L_join (K : Nat → ClassId) (aX : Nat) (aC : Nat) (aCr : Nat) (aR : Nat) (aH : Nat) (aHr : Nat) (aT : Nat) (aL : Nat) (aS : Nat) (xS : Int32) (xF : Int32) (v : Int32 × Int32 × Int32 × Int32 × (Nat → Int32) × Int32 × Int32 × Int32 × Int32 × (Nat → Int32)) : va_W := [(aX, .inr (5, [.ref aC, .ref aR, .ref aH, .ref aT, .ref aL, .ref aS, .int xS, .int xF, .int v.2.1, .int v.2.2.1, .int v.2.2.2.1])), (aC, .inr (0, [.ref aCr])), (aCr, .inl (K 0, 55, .inl v.2.2.2.2.1)), (aR, .inr (4, [.int v.2.2.2.2.2.1, .int v.2.2.2.2.2.2.1])), (aH, .inr (2, [.ref aHr, .int v.2.2.2.2.2.2.2.1, .int v.2.2.2.2.2.2.2.2.1])), (aHr, .inl (K 1, 495, .inl v.2.2.2.2.2.2.2.2.2))]
set_option maxHeartbeats 4000000 in
set_option maxRecDepth 100000 in
theorem c_L_join (l : Launch) (hfl : l.stackTraces = false) (D : va_G) (K : Nat → ClassId) (aX : Nat) (aC : Nat) (aCr : Nat) (aR : Nat) (aH : Nat) (aHr : Nat) (aT : Nat) (aL : Nat) (aS : Nat) (xS : Int32) (xF : Int32) (xR : Int32) (xD : Int32) (xC : Int32) (row : Nat → Int32) (rR : Int32) (rD : Int32) (kN : Int32) (kK : Int32) (kF : Nat → Int32) (p2 : Int32) (v : Int32 × Int32 × Int32 × Int32 × (Nat → Int32) × Int32 × Int32 × Int32 × Int32 × (Nat → Int32)) (hF : f_L_join xR xD xC row rR rD kN kK kF p2 = some v) (sz : Nat) :
    (vx_Met l yL_join wsL_join RM_L_join (PC D (TY K) [(aX, .inr (5, [.ref aC, .ref aR, .ref aH, .ref aT, .ref aL, .ref aS, .int xS, .int xF, .int xR, .int xD, .int xC])), (aC, .inr (0, [.ref aCr])), (aCr, .inl (K 0, 55, .inl row)), (aR, .inr (4, [.int rR, .int rD])), (aH, .inr (2, [.ref aHr, .int kN, .int kK])), (aHr, .inl (K 1, 495, .inl kF))] [.ref aX, .int p2] sz) (QI D (TY K) (wf_L_join K aX aC aCr aR aH aHr aT aL aS xS xF) v (va_A [(aX, .inr (5, [.ref aC, .ref aR, .ref aH, .ref aT, .ref aL, .ref aS, .int xS, .int xF, .int xR, .int xD, .int xC])), (aC, .inr (0, [.ref aCr])), (aCr, .inl (K 0, 55, .inl row)), (aR, .inr (4, [.int rR, .int rD])), (aH, .inr (2, [.ref aHr, .int kN, .int kK])), (aHr, .inl (K 1, 495, .inl kF))] sz)) XN MC_L_join MS_L_join (va_A [(aX, .inr (5, [.ref aC, .ref aR, .ref aH, .ref aT, .ref aL, .ref aS, .int xS, .int xF, .int xR, .int xD, .int xC])), (aC, .inr (0, [.ref aCr])), (aCr, .inl (K 0, 55, .inl row)), (aR, .inr (4, [.int rR, .int rD])), (aH, .inr (2, [.ref aHr, .int kN, .int kK])), (aHr, .inl (K 1, 495, .inl kF))] sz)) := by
  refine proH (Qf := fun A => QI D (TY K) (wf_L_join K aX aC aCr aR aH aHr aT aL aS xS xF) v A) (XCf := fun _ => XN) (cc := cL_join) (maxL := 3) (ret := (some .int)) (by decide +kernel) rfl (Nat.le_of_ble_eq_true rfl) ?_
  intro p e s m args below meth c hx hb hr hts hown hlocks hml htab hK A hA hE hP hD hS ls hl
  have hown : s.vm.findClass RL = some m.cls := hown
  have hl : lv_has ls 3 [(0, .ref aX), (1, .int p2)] := hl
  rw [f_L_join] at hF
  refine lv_aload_n hx hb dL_join_0 rfl (lv_at hl 0 rfl) ?_
  refine lv_iload_n hx hb dL_join_1 rfl (lv_at hl 1 rfl) ?_
  obtain ⟨v1, hv1, hF⟩ := oB hF
  refine callX_i (wr := []) (wn := [(aX, .inr (5, [.ref aC, .ref aR, .ref aH, .ref aT, .ref aL, .ref aS, .int xS, .int xF, .int v1.2.2.1, .int v1.2.2.2.1, .int v1.2.2.2.2.1])), (aC, .inr (0, [.ref aCr])), (aCr, .inl (K 0, 55, .inl v1.2.2.2.2.2.1)), (aR, .inr (4, [.int v1.2.2.2.2.2.2.1, .int v1.2.2.2.2.2.2.2.1])), (aH, .inr (2, [.ref aHr, .int v1.2.2.2.2.2.2.2.2.1, .int v1.2.2.2.2.2.2.2.2.2.1])), (aHr, .inl (K 1, 495, .inl v1.2.2.2.2.2.2.2.2.2.2))]) (vx_runV (As := [.int p2]) (rest := []) ⟨hx, hb, hml, hown, hts⟩ (c_X7_join l hfl D K aX aC aCr aR aH aHr aT aL aS xS xF xR xD xC row rR rD kN kK kF p2 v1 hv1 s.heap.size) (cwV 1 hts gL_join_X7_join rfl rfl rfl (by decide +kernel) ⟨(Nat.le_of_ble_eq_true rfl), (Nat.le_of_ble_eq_true rfl)⟩) (prV hE hK hP hD hS hA [0, 1, 2, 3, 4, 5] rfl rfl 5 0 rfl rfl rfl) rfl rfl hl.1 rfl (lv_room (Nat.le_of_ble_eq_true rfl)) dL_join_2 ⟨(Nat.le_of_ble_eq_true rfl), (Nat.le_of_ble_eq_true rfl)⟩) hP hD hS hA [0, 1, 2, 3, 4, 5] [] [0, 1, 2, 3, 4, 5] rfl rfl rfl (by decide) rfl rfl (fun hzv1 H locs hP hD hS => ?_) (fun hzv1 q9 ce H locs hP hD hS hce hcv hcl => ?_)
  · have hF := oT hzv1 hF
    exact vx_ret (fin_i (u := (v1.2.1, (v1.2.2.1, v1.2.2.2.1, v1.2.2.2.2.1, v1.2.2.2.2.2.1, v1.2.2.2.2.2.2.1, v1.2.2.2.2.2.2.2.1, v1.2.2.2.2.2.2.2.2.1, v1.2.2.2.2.2.2.2.2.2.1, v1.2.2.2.2.2.2.2.2.2.2))) hF hx hb hr hlocks hK hP hD hS (Nat.le_of_ble_eq_true rfl) (Nat.le_of_ble_eq_true rfl) dL_join_5)
  · have hF := oF hzv1 hF
    by_cases c2 : v1.1 = 6
    · have hF := oT c2 hF
      rw [c2] at hcl
      refine vx_catch (E := "java/lang/UnsupportedOperationException") (name := "java/lang/UnsupportedOperationException") hown [] ⟨0, 5, 6, 13⟩ [] (htab.trans rfl) (fun z hz => nomatch hz) (by decide) (by decide) (hts (.classLink RL 13 "java/lang/UnsupportedOperationException") (List.mem_of_getElem? (i := 1) rfl)) (va_Nw.use rfl (hE.2.2.2.2.1 _ (List.mem_of_getElem? (i := 0) rfl))) hce hcv hcl ?_
      refine lv_astore_n (lv' := [(2, .ref q9), (0, .ref aX), (1, .int p2)]) hx hb dL_join_6 rfl hl (by decide) rfl (fun ls hl => ?_)
      refine lv_sipush (v := (-1001 : Int32)) hx hb dL_join_7 (by decide) ?_
      exact vx_ret (fin_i (u := ((-1001 : Int32), (v1.2.2.1, v1.2.2.2.1, v1.2.2.2.2.1, v1.2.2.2.2.2.1, v1.2.2.2.2.2.2.1, v1.2.2.2.2.2.2.2.1, v1.2.2.2.2.2.2.2.2.1, v1.2.2.2.2.2.2.2.2.2.1, v1.2.2.2.2.2.2.2.2.2.2))) hF hx hb hr hlocks hK hP hD hS (Nat.le_of_ble_eq_true rfl) (Nat.le_of_ble_eq_true rfl) dL_join_10)
    have hF := oF c2 hF
    exact nomatch hF
abbrev RM_L_leave : Room := { frames := 8, cells := 1, slots := 6, locals := 209 }
abbrev MC_L_leave : Nat := 1
abbrev MS_L_leave : Nat := 6
abbrev wf_L_leave (K : Nat → ClassId) (aX : Nat) (aC : Nat) (aCr : Nat) (aR : Nat) (aH : Nat) (aHr : Nat) (aT : Nat) (aL : Nat) (aS : Nat) (xS : Int32) (xF : Int32) (v : Int32 × Int32 × Int32 × Int32 × (Nat → Int32) × Int32 × Int32 × Int32 × Int32 × (Nat → Int32)) : va_W := [(aX, .inr (5, [.ref aC, .ref aR, .ref aH, .ref aT, .ref aL, .ref aS, .int xS, .int xF, .int v.2.1, .int v.2.2.1, .int v.2.2.2.1])), (aC, .inr (0, [.ref aCr])), (aCr, .inl (K 0, 55, .inl v.2.2.2.2.1)), (aR, .inr (4, [.int v.2.2.2.2.2.1, .int v.2.2.2.2.2.2.1])), (aH, .inr (2, [.ref aHr, .int v.2.2.2.2.2.2.2.1, .int v.2.2.2.2.2.2.2.2.1])), (aHr, .inl (K 1, 495, .inl v.2.2.2.2.2.2.2.2.2))]
set_option maxHeartbeats 4000000 in
set_option maxRecDepth 100000 in
theorem c_L_leave (l : Launch) (hfl : l.stackTraces = false) (D : va_G) (K : Nat → ClassId) (aX : Nat) (aC : Nat) (aCr : Nat) (aR : Nat) (aH : Nat) (aHr : Nat) (aT : Nat) (aL : Nat) (aS : Nat) (xS : Int32) (xF : Int32) (xR : Int32) (xD : Int32) (xC : Int32) (row : Nat → Int32) (rR : Int32) (rD : Int32) (kN : Int32) (kK : Int32) (kF : Nat → Int32) (p2 : Int32) (v : Int32 × Int32 × Int32 × Int32 × (Nat → Int32) × Int32 × Int32 × Int32 × Int32 × (Nat → Int32)) (hF : f_L_leave xR xD xC row rR rD kN kK kF p2 = some v) (sz : Nat) :
    (vx_Met l yL_leave wsL_leave RM_L_leave (PC D (TY K) [(aX, .inr (5, [.ref aC, .ref aR, .ref aH, .ref aT, .ref aL, .ref aS, .int xS, .int xF, .int xR, .int xD, .int xC])), (aC, .inr (0, [.ref aCr])), (aCr, .inl (K 0, 55, .inl row)), (aR, .inr (4, [.int rR, .int rD])), (aH, .inr (2, [.ref aHr, .int kN, .int kK])), (aHr, .inl (K 1, 495, .inl kF))] [.ref aX, .int p2] sz) (QI D (TY K) (wf_L_leave K aX aC aCr aR aH aHr aT aL aS xS xF) v (va_A [(aX, .inr (5, [.ref aC, .ref aR, .ref aH, .ref aT, .ref aL, .ref aS, .int xS, .int xF, .int xR, .int xD, .int xC])), (aC, .inr (0, [.ref aCr])), (aCr, .inl (K 0, 55, .inl row)), (aR, .inr (4, [.int rR, .int rD])), (aH, .inr (2, [.ref aHr, .int kN, .int kK])), (aHr, .inl (K 1, 495, .inl kF))] sz)) XN MC_L_leave MS_L_leave (va_A [(aX, .inr (5, [.ref aC, .ref aR, .ref aH, .ref aT, .ref aL, .ref aS, .int xS, .int xF, .int xR, .int xD, .int xC])), (aC, .inr (0, [.ref aCr])), (aCr, .inl (K 0, 55, .inl row)), (aR, .inr (4, [.int rR, .int rD])), (aH, .inr (2, [.ref aHr, .int kN, .int kK])), (aHr, .inl (K 1, 495, .inl kF))] sz)) := by
  refine proH (Qf := fun A => QI D (TY K) (wf_L_leave K aX aC aCr aR aH aHr aT aL aS xS xF) v A) (XCf := fun _ => XN) (cc := cL_leave) (maxL := 3) (ret := (some .int)) (by decide +kernel) rfl (Nat.le_of_ble_eq_true rfl) ?_
  intro p e s m args below meth c hx hb hr hts hown hlocks hml htab hK A hA hE hP hD hS ls hl
  have hown : s.vm.findClass RL = some m.cls := hown
  have hl : lv_has ls 3 [(0, .ref aX), (1, .int p2)] := hl
  rw [f_L_leave] at hF
  refine lv_aload_n hx hb dL_leave_0 rfl (lv_at hl 0 rfl) ?_
  refine lv_iload_n hx hb dL_leave_1 rfl (lv_at hl 1 rfl) ?_
  obtain ⟨v1, hv1, hF⟩ := oB hF
  refine callX_i (wr := []) (wn := [(aX, .inr (5, [.ref aC, .ref aR, .ref aH, .ref aT, .ref aL, .ref aS, .int xS, .int xF, .int v1.2.2.1, .int v1.2.2.2.1, .int v1.2.2.2.2.1])), (aC, .inr (0, [.ref aCr])), (aCr, .inl (K 0, 55, .inl v1.2.2.2.2.2.1)), (aR, .inr (4, [.int v1.2.2.2.2.2.2.1, .int v1.2.2.2.2.2.2.2.1])), (aH, .inr (2, [.ref aHr, .int v1.2.2.2.2.2.2.2.2.1, .int v1.2.2.2.2.2.2.2.2.2.1])), (aHr, .inl (K 1, 495, .inl v1.2.2.2.2.2.2.2.2.2.2))]) (vx_runV (As := [.int p2]) (rest := []) ⟨hx, hb, hml, hown, hts⟩ (c_X7_leave l hfl D K aX aC aCr aR aH aHr aT aL aS xS xF xR xD xC row rR rD kN kK kF p2 v1 hv1 s.heap.size) (cwV 1 hts gL_leave_X7_leave rfl rfl rfl (by decide +kernel) ⟨(Nat.le_of_ble_eq_true rfl), (Nat.le_of_ble_eq_true rfl)⟩) (prV hE hK hP hD hS hA [0, 1, 2, 3, 4, 5] rfl rfl 5 0 rfl rfl rfl) rfl rfl hl.1 rfl (lv_room (Nat.le_of_ble_eq_true rfl)) dL_leave_2 ⟨(Nat.le_of_ble_eq_true rfl), (Nat.le_of_ble_eq_true rfl)⟩) hP hD hS hA [0, 1, 2, 3, 4, 5] [] [0, 1, 2, 3, 4, 5] rfl rfl rfl (by decide) rfl rfl (fun hzv1 H locs hP hD hS => ?_) (fun hzv1 q9 ce H locs hP hD hS hce hcv hcl => ?_)
  · have hF := oT hzv1 hF
    exact vx_ret (fin_i (u := (v1.2.1, (v1.2.2.1, v1.2.2.2.1, v1.2.2.2.2.1, v1.2.2.2.2.2.1, v1.2.2.2.2.2.2.1, v1.2.2.2.2.2.2.2.1, v1.2.2.2.2.2.2.2.2.1, v1.2.2.2.2.2.2.2.2.2.1, v1.2.2.2.2.2.2.2.2.2.2))) hF hx hb hr hlocks hK hP hD hS (Nat.le_of_ble_eq_true rfl) (Nat.le_of_ble_eq_true rfl) dL_leave_5)
  · have hF := oF hzv1 hF
    by_cases c2 : v1.1 = 6
    · have hF := oT c2 hF
      rw [c2] at hcl
      refine vx_catch (E := "java/lang/UnsupportedOperationException") (name := "java/lang/UnsupportedOperationException") hown [] ⟨0, 5, 6, 13⟩ [] (htab.trans rfl) (fun z hz => nomatch hz) (by decide) (by decide) (hts (.classLink RL 13 "java/lang/UnsupportedOperationException") (List.mem_of_getElem? (i := 1) rfl)) (va_Nw.use rfl (hE.2.2.2.2.1 _ (List.mem_of_getElem? (i := 0) rfl))) hce hcv hcl ?_
      refine lv_astore_n (lv' := [(2, .ref q9), (0, .ref aX), (1, .int p2)]) hx hb dL_leave_6 rfl hl (by decide) rfl (fun ls hl => ?_)
      refine lv_sipush (v := (-1001 : Int32)) hx hb dL_leave_7 (by decide) ?_
      exact vx_ret (fin_i (u := ((-1001 : Int32), (v1.2.2.1, v1.2.2.2.1, v1.2.2.2.2.1, v1.2.2.2.2.2.1, v1.2.2.2.2.2.2.1, v1.2.2.2.2.2.2.2.1, v1.2.2.2.2.2.2.2.2.1, v1.2.2.2.2.2.2.2.2.2.1, v1.2.2.2.2.2.2.2.2.2.2))) hF hx hb hr hlocks hK hP hD hS (Nat.le_of_ble_eq_true rfl) (Nat.le_of_ble_eq_true rfl) dL_leave_10)
    have hF := oF c2 hF
    exact nomatch hF
abbrev RM_L_move : Room := { frames := 8, cells := 1, slots := 6, locals := 210 }
abbrev MC_L_move : Nat := 1
abbrev MS_L_move : Nat := 6
abbrev wf_L_move (K : Nat → ClassId) (aX : Nat) (aC : Nat) (aCr : Nat) (aR : Nat) (aH : Nat) (aHr : Nat) (aT : Nat) (aL : Nat) (aS : Nat) (xS : Int32) (xF : Int32) (v : Int32 × Int32 × Int32 × Int32 × (Nat → Int32) × Int32 × Int32 × Int32 × Int32 × (Nat → Int32)) : va_W := [(aX, .inr (5, [.ref aC, .ref aR, .ref aH, .ref aT, .ref aL, .ref aS, .int xS, .int xF, .int v.2.1, .int v.2.2.1, .int v.2.2.2.1])), (aC, .inr (0, [.ref aCr])), (aCr, .inl (K 0, 55, .inl v.2.2.2.2.1)), (aR, .inr (4, [.int v.2.2.2.2.2.1, .int v.2.2.2.2.2.2.1])), (aH, .inr (2, [.ref aHr, .int v.2.2.2.2.2.2.2.1, .int v.2.2.2.2.2.2.2.2.1])), (aHr, .inl (K 1, 495, .inl v.2.2.2.2.2.2.2.2.2))]
set_option maxHeartbeats 4000000 in
set_option maxRecDepth 100000 in
theorem c_L_move (l : Launch) (hfl : l.stackTraces = false) (D : va_G) (K : Nat → ClassId) (aX : Nat) (aC : Nat) (aCr : Nat) (aR : Nat) (aH : Nat) (aHr : Nat) (aT : Nat) (aL : Nat) (aS : Nat) (xS : Int32) (xF : Int32) (xR : Int32) (xD : Int32) (xC : Int32) (row : Nat → Int32) (rR : Int32) (rD : Int32) (kN : Int32) (kK : Int32) (kF : Nat → Int32) (p2 : Int32) (p3 : Int32) (v : Int32 × Int32 × Int32 × Int32 × (Nat → Int32) × Int32 × Int32 × Int32 × Int32 × (Nat → Int32)) (hF : f_L_move xR xD xC row rR rD kN kK kF p2 p3 = some v) (sz : Nat) :
    (vx_Met l yL_move wsL_move RM_L_move (PC D (TY K) [(aX, .inr (5, [.ref aC, .ref aR, .ref aH, .ref aT, .ref aL, .ref aS, .int xS, .int xF, .int xR, .int xD, .int xC])), (aC, .inr (0, [.ref aCr])), (aCr, .inl (K 0, 55, .inl row)), (aR, .inr (4, [.int rR, .int rD])), (aH, .inr (2, [.ref aHr, .int kN, .int kK])), (aHr, .inl (K 1, 495, .inl kF))] [.ref aX, .int p2, .int p3] sz) (QI D (TY K) (wf_L_move K aX aC aCr aR aH aHr aT aL aS xS xF) v (va_A [(aX, .inr (5, [.ref aC, .ref aR, .ref aH, .ref aT, .ref aL, .ref aS, .int xS, .int xF, .int xR, .int xD, .int xC])), (aC, .inr (0, [.ref aCr])), (aCr, .inl (K 0, 55, .inl row)), (aR, .inr (4, [.int rR, .int rD])), (aH, .inr (2, [.ref aHr, .int kN, .int kK])), (aHr, .inl (K 1, 495, .inl kF))] sz)) XN MC_L_move MS_L_move (va_A [(aX, .inr (5, [.ref aC, .ref aR, .ref aH, .ref aT, .ref aL, .ref aS, .int xS, .int xF, .int xR, .int xD, .int xC])), (aC, .inr (0, [.ref aCr])), (aCr, .inl (K 0, 55, .inl row)), (aR, .inr (4, [.int rR, .int rD])), (aH, .inr (2, [.ref aHr, .int kN, .int kK])), (aHr, .inl (K 1, 495, .inl kF))] sz)) := by
  refine proH (Qf := fun A => QI D (TY K) (wf_L_move K aX aC aCr aR aH aHr aT aL aS xS xF) v A) (XCf := fun _ => XN) (cc := cL_move) (maxL := 4) (ret := (some .int)) (by decide +kernel) rfl (Nat.le_of_ble_eq_true rfl) ?_
  intro p e s m args below meth c hx hb hr hts hown hlocks hml htab hK A hA hE hP hD hS ls hl
  have hown : s.vm.findClass RL = some m.cls := hown
  have hl : lv_has ls 4 [(0, .ref aX), (1, .int p2), (2, .int p3)] := hl
  rw [f_L_move] at hF
  refine lv_aload_n hx hb dL_move_0 rfl (lv_at hl 0 rfl) ?_
  refine lv_iload_n hx hb dL_move_1 rfl (lv_at hl 1 rfl) ?_
  refine lv_iload_n hx hb dL_move_2 rfl (lv_at hl 2 rfl) ?_
  obtain ⟨v1, hv1, hF⟩ := oB hF
  refine callX_i (wr := []) (wn := [(aX, .inr (5, [.ref aC, .ref aR, .ref aH, .ref aT, .ref aL, .ref aS, .int xS, .int xF, .int v1.2.2.1, .int v1.2.2.2.1, .int v1.2.2.2.2.1])), (aC, .inr (0, [.ref aCr])), (aCr, .inl (K 0, 55, .inl v1.2.2.2.2.2.1)), (aR, .inr (4, [.int v1.2.2.2.2.2.2.1, .int v1.2.2.2.2.2.2.2.1])), (aH, .inr (2, [.ref aHr, .int v1.2.2.2.2.2.2.2.2.1, .int v1.2.2.2.2.2.2.2.2.2.1])), (aHr, .inl (K 1, 495, .inl v1.2.2.2.2.2.2.2.2.2.2))]) (vx_runV (As := [.int p2, .int p3]) (rest := []) ⟨hx, hb, hml, hown, hts⟩ (c_X7_move l hfl D K aX aC aCr aR aH aHr aT aL aS xS xF xR xD xC row rR rD kN kK kF p2 p3 v1 hv1 s.heap.size) (cwV 2 hts gL_move_X7_move rfl rfl rfl (by decide +kernel) ⟨(Nat.le_of_ble_eq_true rfl), (Nat.le_of_ble_eq_true rfl)⟩) (prV hE hK hP hD hS hA [0, 1, 2, 3, 4, 5] rfl rfl 5 0 rfl rfl rfl) rfl rfl hl.1 rfl (lv_room (Nat.le_of_ble_eq_true rfl)) dL_move_3 ⟨(Nat.le_of_ble_eq_true rfl), (Nat.le_of_ble_eq_true rfl)⟩) hP hD hS hA [0, 1, 2, 3, 4, 5] [] [0, 1, 2, 3, 4, 5] rfl rfl rfl (by decide) rfl rfl (fun hzv1 H locs hP hD hS => ?_) (fun hzv1 q9 ce H locs hP hD hS hce hcv hcl => ?_)
  · have hF := oT hzv1 hF
    exact vx_ret (fin_i (u := (v1.2.1, (v1.2.2.1, v1.2.2.2.1, v1.2.2.2.2.1, v1.2.2.2.2.2.1, v1.2.2.2.2.2.2.1, v1.2.2.2.2.2.2.2.1, v1.2.2.2.2.2.2.2.2.1, v1.2.2.2.2.2.2.2.2.2.1, v1.2.2.2.2.2.2.2.2.2.2))) hF hx hb hr hlocks hK hP hD hS (Nat.le_of_ble_eq_true rfl) (Nat.le_of_ble_eq_true rfl) dL_move_6)
  · have hF := oF hzv1 hF
    by_cases c2 : v1.1 = 6
    · have hF := oT c2 hF
      rw [c2] at hcl
      refine vx_catch (E := "java/lang/UnsupportedOperationException") (name := "java/lang/UnsupportedOperationException") hown [] ⟨0, 6, 7, 13⟩ [] (htab.trans rfl) (fun z hz => nomatch hz) (by decide) (by decide) (hts (.classLink RL 13 "java/lang/UnsupportedOperationException") (List.mem_of_getElem? (i := 1) rfl)) (va_Nw.use rfl (hE.2.2.2.2.1 _ (List.mem_of_getElem? (i := 0) rfl))) hce hcv hcl ?_
      refine lv_astore_n (lv' := [(3, .ref q9), (0, .ref aX), (1, .int p2), (2, .int p3)]) hx hb dL_move_7 rfl hl (by decide) rfl (fun ls hl => ?_)
      refine lv_sipush (v := (-1001 : Int32)) hx hb dL_move_8 (by decide) ?_
      exact vx_ret (fin_i (u := ((-1001 : Int32), (v1.2.2.1, v1.2.2.2.1, v1.2.2.2.2.1, v1.2.2.2.2.2.1, v1.2.2.2.2.2.2.1, v1.2.2.2.2.2.2.2.1, v1.2.2.2.2.2.2.2.2.1, v1.2.2.2.2.2.2.2.2.2.1, v1.2.2.2.2.2.2.2.2.2.2))) hF hx hb hr hlocks hK hP hD hS (Nat.le_of_ble_eq_true rfl) (Nat.le_of_ble_eq_true rfl) dL_move_11)
    have hF := oF c2 hF
    exact nomatch hF
abbrev RM_L_exchange : Room := { frames := 8, cells := 1, slots := 6, locals := 210 }
abbrev MC_L_exchange : Nat := 1
abbrev MS_L_exchange : Nat := 6
abbrev wf_L_exchange (K : Nat → ClassId) (aX : Nat) (aC : Nat) (aCr : Nat) (aR : Nat) (aH : Nat) (aHr : Nat) (aT : Nat) (aL : Nat) (aS : Nat) (xS : Int32) (xF : Int32) (v : Int32 × Int32 × Int32 × Int32 × (Nat → Int32) × Int32 × Int32 × Int32 × Int32 × (Nat → Int32)) : va_W := [(aX, .inr (5, [.ref aC, .ref aR, .ref aH, .ref aT, .ref aL, .ref aS, .int xS, .int xF, .int v.2.1, .int v.2.2.1, .int v.2.2.2.1])), (aC, .inr (0, [.ref aCr])), (aCr, .inl (K 0, 55, .inl v.2.2.2.2.1)), (aR, .inr (4, [.int v.2.2.2.2.2.1, .int v.2.2.2.2.2.2.1])), (aH, .inr (2, [.ref aHr, .int v.2.2.2.2.2.2.2.1, .int v.2.2.2.2.2.2.2.2.1])), (aHr, .inl (K 1, 495, .inl v.2.2.2.2.2.2.2.2.2))]
set_option maxHeartbeats 4000000 in
set_option maxRecDepth 100000 in
theorem c_L_exchange (l : Launch) (hfl : l.stackTraces = false) (D : va_G) (K : Nat → ClassId) (aX : Nat) (aC : Nat) (aCr : Nat) (aR : Nat) (aH : Nat) (aHr : Nat) (aT : Nat) (aL : Nat) (aS : Nat) (xS : Int32) (xF : Int32) (xR : Int32) (xD : Int32) (xC : Int32) (row : Nat → Int32) (rR : Int32) (rD : Int32) (kN : Int32) (kK : Int32) (kF : Nat → Int32) (p2 : Int32) (p3 : Int32) (v : Int32 × Int32 × Int32 × Int32 × (Nat → Int32) × Int32 × Int32 × Int32 × Int32 × (Nat → Int32)) (hF : f_L_exchange xR xD xC row rR rD kN kK kF p2 p3 = some v) (sz : Nat) :
    (vx_Met l yL_exchange wsL_exchange RM_L_exchange (PC D (TY K) [(aX, .inr (5, [.ref aC, .ref aR, .ref aH, .ref aT, .ref aL, .ref aS, .int xS, .int xF, .int xR, .int xD, .int xC])), (aC, .inr (0, [.ref aCr])), (aCr, .inl (K 0, 55, .inl row)), (aR, .inr (4, [.int rR, .int rD])), (aH, .inr (2, [.ref aHr, .int kN, .int kK])), (aHr, .inl (K 1, 495, .inl kF))] [.ref aX, .int p2, .int p3] sz) (QI D (TY K) (wf_L_exchange K aX aC aCr aR aH aHr aT aL aS xS xF) v (va_A [(aX, .inr (5, [.ref aC, .ref aR, .ref aH, .ref aT, .ref aL, .ref aS, .int xS, .int xF, .int xR, .int xD, .int xC])), (aC, .inr (0, [.ref aCr])), (aCr, .inl (K 0, 55, .inl row)), (aR, .inr (4, [.int rR, .int rD])), (aH, .inr (2, [.ref aHr, .int kN, .int kK])), (aHr, .inl (K 1, 495, .inl kF))] sz)) XN MC_L_exchange MS_L_exchange (va_A [(aX, .inr (5, [.ref aC, .ref aR, .ref aH, .ref aT, .ref aL, .ref aS, .int xS, .int xF, .int xR, .int xD, .int xC])), (aC, .inr (0, [.ref aCr])), (aCr, .inl (K 0, 55, .inl row)), (aR, .inr (4, [.int rR, .int rD])), (aH, .inr (2, [.ref aHr, .int kN, .int kK])), (aHr, .inl (K 1, 495, .inl kF))] sz)) := by
  refine proH (Qf := fun A => QI D (TY K) (wf_L_exchange K aX aC aCr aR aH aHr aT aL aS xS xF) v A) (XCf := fun _ => XN) (cc := cL_exchange) (maxL := 4) (ret := (some .int)) (by decide +kernel) rfl (Nat.le_of_ble_eq_true rfl) ?_
  intro p e s m args below meth c hx hb hr hts hown hlocks hml htab hK A hA hE hP hD hS ls hl
  have hown : s.vm.findClass RL = some m.cls := hown
  have hl : lv_has ls 4 [(0, .ref aX), (1, .int p2), (2, .int p3)] := hl
  rw [f_L_exchange] at hF
  refine lv_aload_n hx hb dL_exchange_0 rfl (lv_at hl 0 rfl) ?_
  refine lv_iload_n hx hb dL_exchange_1 rfl (lv_at hl 1 rfl) ?_
  refine lv_iload_n hx hb dL_exchange_2 rfl (lv_at hl 2 rfl) ?_
  obtain ⟨v1, hv1, hF⟩ := oB hF
  refine callX_i (wr := []) (wn := [(aX, .inr (5, [.ref aC, .ref aR, .ref aH, .ref aT, .ref aL, .ref aS, .int xS, .int xF, .int v1.2.2.1, .int v1.2.2.2.1, .int v1.2.2.2.2.1])), (aC, .inr (0, [.ref aCr])), (aCr, .inl (K 0, 55, .inl v1.2.2.2.2.2.1)), (aR, .inr (4, [.int v1.2.2.2.2.2.2.1, .int v1.2.2.2.2.2.2.2.1])), (aH, .inr (2, [.ref aHr, .int v1.2.2.2.2.2.2.2.2.1, .int v1.2.2.2.2.2.2.2.2.2.1])), (aHr, .inl (K 1, 495, .inl v1.2.2.2.2.2.2.2.2.2.2))]) (vx_runV (As := [.int p2, .int p3]) (rest := []) ⟨hx, hb, hml, hown, hts⟩ (c_X7_exchange l hfl D K aX aC aCr aR aH aHr aT aL aS xS xF xR xD xC row rR rD kN kK kF p2 p3 v1 hv1 s.heap.size) (cwV 2 hts gL_exchange_X7_exchange rfl rfl rfl (by decide +kernel) ⟨(Nat.le_of_ble_eq_true rfl), (Nat.le_of_ble_eq_true rfl)⟩) (prV hE hK hP hD hS hA [0, 1, 2, 3, 4, 5] rfl rfl 5 0 rfl rfl rfl) rfl rfl hl.1 rfl (lv_room (Nat.le_of_ble_eq_true rfl)) dL_exchange_3 ⟨(Nat.le_of_ble_eq_true rfl), (Nat.le_of_ble_eq_true rfl)⟩) hP hD hS hA [0, 1, 2, 3, 4, 5] [] [0, 1, 2, 3, 4, 5] rfl rfl rfl (by decide) rfl rfl (fun hzv1 H locs hP hD hS => ?_) (fun hzv1 q9 ce H locs hP hD hS hce hcv hcl => ?_)
  · have hF := oT hzv1 hF
    exact vx_ret (fin_i (u := (v1.2.1, (v1.2.2.1, v1.2.2.2.1, v1.2.2.2.2.1, v1.2.2.2.2.2.1, v1.2.2.2.2.2.2.1, v1.2.2.2.2.2.2.2.1, v1.2.2.2.2.2.2.2.2.1, v1.2.2.2.2.2.2.2.2.2.1, v1.2.2.2.2.2.2.2.2.2.2))) hF hx hb hr hlocks hK hP hD hS (Nat.le_of_ble_eq_true rfl) (Nat.le_of_ble_eq_true rfl) dL_exchange_6)
  · have hF := oF hzv1 hF
    by_cases c2 : v1.1 = 6
    · have hF := oT c2 hF
      rw [c2] at hcl
      refine vx_catch (E := "java/lang/UnsupportedOperationException") (name := "java/lang/UnsupportedOperationException") hown [] ⟨0, 6, 7, 13⟩ [] (htab.trans rfl) (fun z hz => nomatch hz) (by decide) (by decide) (hts (.classLink RL 13 "java/lang/UnsupportedOperationException") (List.mem_of_getElem? (i := 1) rfl)) (va_Nw.use rfl (hE.2.2.2.2.1 _ (List.mem_of_getElem? (i := 0) rfl))) hce hcv hcl ?_
      refine lv_astore_n (lv' := [(3, .ref q9), (0, .ref aX), (1, .int p2), (2, .int p3)]) hx hb dL_exchange_7 rfl hl (by decide) rfl (fun ls hl => ?_)
      refine lv_sipush (v := (-1001 : Int32)) hx hb dL_exchange_8 (by decide) ?_
      exact vx_ret (fin_i (u := ((-1001 : Int32), (v1.2.2.1, v1.2.2.2.1, v1.2.2.2.2.1, v1.2.2.2.2.2.1, v1.2.2.2.2.2.2.1, v1.2.2.2.2.2.2.2.1, v1.2.2.2.2.2.2.2.2.1, v1.2.2.2.2.2.2.2.2.2.1, v1.2.2.2.2.2.2.2.2.2.2))) hF hx hb hr hlocks hK hP hD hS (Nat.le_of_ble_eq_true rfl) (Nat.le_of_ble_eq_true rfl) dL_exchange_11)
    have hF := oF c2 hF
    exact nomatch hF
abbrev RM_L_wager : Room := { frames := 8, cells := 1, slots := 6, locals := 211 }
abbrev MC_L_wager : Nat := 1
abbrev MS_L_wager : Nat := 6
abbrev wf_L_wager (K : Nat → ClassId) (aX : Nat) (aC : Nat) (aCr : Nat) (aR : Nat) (aH : Nat) (aHr : Nat) (aT : Nat) (aL : Nat) (aS : Nat) (xS : Int32) (xF : Int32) (v : Int32 × Int32 × Int32 × Int32 × (Nat → Int32) × Int32 × Int32 × Int32 × Int32 × (Nat → Int32)) : va_W := [(aX, .inr (5, [.ref aC, .ref aR, .ref aH, .ref aT, .ref aL, .ref aS, .int xS, .int xF, .int v.2.1, .int v.2.2.1, .int v.2.2.2.1])), (aC, .inr (0, [.ref aCr])), (aCr, .inl (K 0, 55, .inl v.2.2.2.2.1)), (aR, .inr (4, [.int v.2.2.2.2.2.1, .int v.2.2.2.2.2.2.1])), (aH, .inr (2, [.ref aHr, .int v.2.2.2.2.2.2.2.1, .int v.2.2.2.2.2.2.2.2.1])), (aHr, .inl (K 1, 495, .inl v.2.2.2.2.2.2.2.2.2))]
set_option maxHeartbeats 4000000 in
set_option maxRecDepth 100000 in
theorem c_L_wager (l : Launch) (hfl : l.stackTraces = false) (D : va_G) (K : Nat → ClassId) (aX : Nat) (aC : Nat) (aCr : Nat) (aR : Nat) (aH : Nat) (aHr : Nat) (aT : Nat) (aL : Nat) (aS : Nat) (xS : Int32) (xF : Int32) (xR : Int32) (xD : Int32) (xC : Int32) (row : Nat → Int32) (rR : Int32) (rD : Int32) (kN : Int32) (kK : Int32) (kF : Nat → Int32) (p2 : Int32) (p3 : Int32) (p4 : Int32) (v : Int32 × Int32 × Int32 × Int32 × (Nat → Int32) × Int32 × Int32 × Int32 × Int32 × (Nat → Int32)) (hF : f_L_wager xR xD xC row rR rD kN kK kF p2 p3 p4 = some v) (sz : Nat) :
    (vx_Met l yL_wager wsL_wager RM_L_wager (PC D (TY K) [(aX, .inr (5, [.ref aC, .ref aR, .ref aH, .ref aT, .ref aL, .ref aS, .int xS, .int xF, .int xR, .int xD, .int xC])), (aC, .inr (0, [.ref aCr])), (aCr, .inl (K 0, 55, .inl row)), (aR, .inr (4, [.int rR, .int rD])), (aH, .inr (2, [.ref aHr, .int kN, .int kK])), (aHr, .inl (K 1, 495, .inl kF))] [.ref aX, .int p2, .int p3, .int p4] sz) (QI D (TY K) (wf_L_wager K aX aC aCr aR aH aHr aT aL aS xS xF) v (va_A [(aX, .inr (5, [.ref aC, .ref aR, .ref aH, .ref aT, .ref aL, .ref aS, .int xS, .int xF, .int xR, .int xD, .int xC])), (aC, .inr (0, [.ref aCr])), (aCr, .inl (K 0, 55, .inl row)), (aR, .inr (4, [.int rR, .int rD])), (aH, .inr (2, [.ref aHr, .int kN, .int kK])), (aHr, .inl (K 1, 495, .inl kF))] sz)) XN MC_L_wager MS_L_wager (va_A [(aX, .inr (5, [.ref aC, .ref aR, .ref aH, .ref aT, .ref aL, .ref aS, .int xS, .int xF, .int xR, .int xD, .int xC])), (aC, .inr (0, [.ref aCr])), (aCr, .inl (K 0, 55, .inl row)), (aR, .inr (4, [.int rR, .int rD])), (aH, .inr (2, [.ref aHr, .int kN, .int kK])), (aHr, .inl (K 1, 495, .inl kF))] sz)) := by
  refine proH (Qf := fun A => QI D (TY K) (wf_L_wager K aX aC aCr aR aH aHr aT aL aS xS xF) v A) (XCf := fun _ => XN) (cc := cL_wager) (maxL := 5) (ret := (some .int)) (by decide +kernel) rfl (Nat.le_of_ble_eq_true rfl) ?_
  intro p e s m args below meth c hx hb hr hts hown hlocks hml htab hK A hA hE hP hD hS ls hl
  have hown : s.vm.findClass RL = some m.cls := hown
  have hl : lv_has ls 5 [(0, .ref aX), (1, .int p2), (2, .int p3), (3, .int p4)] := hl
  rw [f_L_wager] at hF
  refine lv_aload_n hx hb dL_wager_0 rfl (lv_at hl 0 rfl) ?_
  refine lv_iload_n hx hb dL_wager_1 rfl (lv_at hl 1 rfl) ?_
  refine lv_iload_n hx hb dL_wager_2 rfl (lv_at hl 2 rfl) ?_
  refine lv_iload_n hx hb dL_wager_3 rfl (lv_at hl 3 rfl) ?_
  obtain ⟨v1, hv1, hF⟩ := oB hF
  refine callX_i (wr := []) (wn := [(aX, .inr (5, [.ref aC, .ref aR, .ref aH, .ref aT, .ref aL, .ref aS, .int xS, .int xF, .int v1.2.2.1, .int v1.2.2.2.1, .int v1.2.2.2.2.1])), (aC, .inr (0, [.ref aCr])), (aCr, .inl (K 0, 55, .inl v1.2.2.2.2.2.1)), (aR, .inr (4, [.int v1.2.2.2.2.2.2.1, .int v1.2.2.2.2.2.2.2.1])), (aH, .inr (2, [.ref aHr, .int v1.2.2.2.2.2.2.2.2.1, .int v1.2.2.2.2.2.2.2.2.2.1])), (aHr, .inl (K 1, 495, .inl v1.2.2.2.2.2.2.2.2.2.2))]) (vx_runV (As := [.int p2, .int p3, .int p4]) (rest := []) ⟨hx, hb, hml, hown, hts⟩ (c_X7_wager l hfl D K aX aC aCr aR aH aHr aT aL aS xS xF xR xD xC row rR rD kN kK kF p2 p3 p4 v1 hv1 s.heap.size) (cwV 3 hts gL_wager_X7_wager rfl rfl rfl (by decide +kernel) ⟨(Nat.le_of_ble_eq_true rfl), (Nat.le_of_ble_eq_true rfl)⟩) (prV hE hK hP hD hS hA [0, 1, 2, 3, 4, 5] rfl rfl 5 0 rfl rfl rfl) rfl rfl hl.1 rfl (lv_room (Nat.le_of_ble_eq_true rfl)) dL_wager_4 ⟨(Nat.le_of_ble_eq_true rfl), (Nat.le_of_ble_eq_true rfl)⟩) hP hD hS hA [0, 1, 2, 3, 4, 5] [] [0, 1, 2, 3, 4, 5] rfl rfl rfl (by decide) rfl rfl (fun hzv1 H locs hP hD hS => ?_) (fun hzv1 q9 ce H locs hP hD hS hce hcv hcl => ?_)
  · have hF := oT hzv1 hF
    exact vx_ret (fin_i (u := (v1.2.1, (v1.2.2.1, v1.2.2.2.1, v1.2.2.2.2.1, v1.2.2.2.2.2.1, v1.2.2.2.2.2.2.1, v1.2.2.2.2.2.2.2.1, v1.2.2.2.2.2.2.2.2.1, v1.2.2.2.2.2.2.2.2.2.1, v1.2.2.2.2.2.2.2.2.2.2))) hF hx hb hr hlocks hK hP hD hS (Nat.le_of_ble_eq_true rfl) (Nat.le_of_ble_eq_true rfl) dL_wager_7)
  · have hF := oF hzv1 hF
    by_cases c2 : v1.1 = 6
    · have hF := oT c2 hF
      rw [c2] at hcl
      refine vx_catch (E := "java/lang/UnsupportedOperationException") (name := "java/lang/UnsupportedOperationException") hown [] ⟨0, 7, 8, 13⟩ [] (htab.trans rfl) (fun z hz => nomatch hz) (by decide) (by decide) (hts (.classLink RL 13 "java/lang/UnsupportedOperationException") (List.mem_of_getElem? (i := 1) rfl)) (va_Nw.use rfl (hE.2.2.2.2.1 _ (List.mem_of_getElem? (i := 0) rfl))) hce hcv hcl ?_
      refine lv_astore (lv' := [(4, .ref q9), (0, .ref aX), (1, .int p2), (2, .int p3), (3, .int p4)]) hx hb dL_wager_8 hl (by decide) rfl (fun ls hl => ?_)
      refine lv_sipush (v := (-1001 : Int32)) hx hb dL_wager_10 (by decide) ?_
      exact vx_ret (fin_i (u := ((-1001 : Int32), (v1.2.2.1, v1.2.2.2.1, v1.2.2.2.2.1, v1.2.2.2.2.2.1, v1.2.2.2.2.2.2.1, v1.2.2.2.2.2.2.2.1, v1.2.2.2.2.2.2.2.2.1, v1.2.2.2.2.2.2.2.2.2.1, v1.2.2.2.2.2.2.2.2.2.2))) hF hx hb hr hlocks hK hP hD hS (Nat.le_of_ble_eq_true rfl) (Nat.le_of_ble_eq_true rfl) dL_wager_13)
    have hF := oF c2 hF
    exact nomatch hF
abbrev RM_L_tap : Room := { frames := 8, cells := 1, slots := 6, locals := 209 }
abbrev MC_L_tap : Nat := 1
abbrev MS_L_tap : Nat := 6
abbrev wf_L_tap (K : Nat → ClassId) (aX : Nat) (aC : Nat) (aCr : Nat) (aR : Nat) (aH : Nat) (aHr : Nat) (aT : Nat) (aL : Nat) (aS : Nat) (xS : Int32) (xF : Int32) (v : Int32 × Int32 × Int32 × Int32 × (Nat → Int32) × Int32 × Int32 × Int32 × Int32 × (Nat → Int32)) : va_W := [(aX, .inr (5, [.ref aC, .ref aR, .ref aH, .ref aT, .ref aL, .ref aS, .int xS, .int xF, .int v.2.1, .int v.2.2.1, .int v.2.2.2.1])), (aC, .inr (0, [.ref aCr])), (aCr, .inl (K 0, 55, .inl v.2.2.2.2.1)), (aR, .inr (4, [.int v.2.2.2.2.2.1, .int v.2.2.2.2.2.2.1])), (aH, .inr (2, [.ref aHr, .int v.2.2.2.2.2.2.2.1, .int v.2.2.2.2.2.2.2.2.1])), (aHr, .inl (K 1, 495, .inl v.2.2.2.2.2.2.2.2.2))]
set_option maxHeartbeats 4000000 in
set_option maxRecDepth 100000 in
theorem c_L_tap (l : Launch) (hfl : l.stackTraces = false) (D : va_G) (K : Nat → ClassId) (aX : Nat) (aC : Nat) (aCr : Nat) (aR : Nat) (aH : Nat) (aHr : Nat) (aT : Nat) (aL : Nat) (aS : Nat) (xS : Int32) (xF : Int32) (xR : Int32) (xD : Int32) (xC : Int32) (row : Nat → Int32) (rR : Int32) (rD : Int32) (kN : Int32) (kK : Int32) (kF : Nat → Int32) (p2 : Int32) (v : Int32 × Int32 × Int32 × Int32 × (Nat → Int32) × Int32 × Int32 × Int32 × Int32 × (Nat → Int32)) (hF : f_L_tap xR xD xC row rR rD kN kK kF p2 = some v) (sz : Nat) :
    (vx_Met l yL_tap wsL_tap RM_L_tap (PC D (TY K) [(aX, .inr (5, [.ref aC, .ref aR, .ref aH, .ref aT, .ref aL, .ref aS, .int xS, .int xF, .int xR, .int xD, .int xC])), (aC, .inr (0, [.ref aCr])), (aCr, .inl (K 0, 55, .inl row)), (aR, .inr (4, [.int rR, .int rD])), (aH, .inr (2, [.ref aHr, .int kN, .int kK])), (aHr, .inl (K 1, 495, .inl kF))] [.ref aX, .int p2] sz) (QI D (TY K) (wf_L_tap K aX aC aCr aR aH aHr aT aL aS xS xF) v (va_A [(aX, .inr (5, [.ref aC, .ref aR, .ref aH, .ref aT, .ref aL, .ref aS, .int xS, .int xF, .int xR, .int xD, .int xC])), (aC, .inr (0, [.ref aCr])), (aCr, .inl (K 0, 55, .inl row)), (aR, .inr (4, [.int rR, .int rD])), (aH, .inr (2, [.ref aHr, .int kN, .int kK])), (aHr, .inl (K 1, 495, .inl kF))] sz)) XN MC_L_tap MS_L_tap (va_A [(aX, .inr (5, [.ref aC, .ref aR, .ref aH, .ref aT, .ref aL, .ref aS, .int xS, .int xF, .int xR, .int xD, .int xC])), (aC, .inr (0, [.ref aCr])), (aCr, .inl (K 0, 55, .inl row)), (aR, .inr (4, [.int rR, .int rD])), (aH, .inr (2, [.ref aHr, .int kN, .int kK])), (aHr, .inl (K 1, 495, .inl kF))] sz)) := by
  refine proH (Qf := fun A => QI D (TY K) (wf_L_tap K aX aC aCr aR aH aHr aT aL aS xS xF) v A) (XCf := fun _ => XN) (cc := cL_tap) (maxL := 3) (ret := (some .int)) (by decide +kernel) rfl (Nat.le_of_ble_eq_true rfl) ?_
  intro p e s m args below meth c hx hb hr hts hown hlocks hml htab hK A hA hE hP hD hS ls hl
  have hown : s.vm.findClass RL = some m.cls := hown
  have hl : lv_has ls 3 [(0, .ref aX), (1, .int p2)] := hl
  rw [f_L_tap] at hF
  refine lv_aload_n hx hb dL_tap_0 rfl (lv_at hl 0 rfl) ?_
  refine lv_iload_n hx hb dL_tap_1 rfl (lv_at hl 1 rfl) ?_
  obtain ⟨v1, hv1, hF⟩ := oB hF
  refine callX_i (wr := []) (wn := [(aX, .inr (5, [.ref aC, .ref aR, .ref aH, .ref aT, .ref aL, .ref aS, .int xS, .int xF, .int v1.2.2.1, .int v1.2.2.2.1, .int v1.2.2.2.2.1])), (aC, .inr (0, [.ref aCr])), (aCr, .inl (K 0, 55, .inl v1.2.2.2.2.2.1)), (aR, .inr (4, [.int v1.2.2.2.2.2.2.1, .int v1.2.2.2.2.2.2.2.1])), (aH, .inr (2, [.ref aHr, .int v1.2.2.2.2.2.2.2.2.1, .int v1.2.2.2.2.2.2.2.2.2.1])), (aHr, .inl (K 1, 495, .inl v1.2.2.2.2.2.2.2.2.2.2))]) (vx_runV (As := [.int p2]) (rest := []) ⟨hx, hb, hml, hown, hts⟩ (c_X7_tap l hfl D K aX aC aCr aR aH aHr aT aL aS xS xF xR xD xC row rR rD kN kK kF p2 v1 hv1 s.heap.size) (cwV 1 hts gL_tap_X7_tap rfl rfl rfl (by decide +kernel) ⟨(Nat.le_of_ble_eq_true rfl), (Nat.le_of_ble_eq_true rfl)⟩) (prV hE hK hP hD hS hA [0, 1, 2, 3, 4, 5] rfl rfl 5 0 rfl rfl rfl) rfl rfl hl.1 rfl (lv_room (Nat.le_of_ble_eq_true rfl)) dL_tap_2 ⟨(Nat.le_of_ble_eq_true rfl), (Nat.le_of_ble_eq_true rfl)⟩) hP hD hS hA [0, 1, 2, 3, 4, 5] [] [0, 1, 2, 3, 4, 5] rfl rfl rfl (by decide) rfl rfl (fun hzv1 H locs hP hD hS => ?_) (fun hzv1 q9 ce H locs hP hD hS hce hcv hcl => ?_)
  · have hF := oT hzv1 hF
    exact vx_ret (fin_i (u := (v1.2.1, (v1.2.2.1, v1.2.2.2.1, v1.2.2.2.2.1, v1.2.2.2.2.2.1, v1.2.2.2.2.2.2.1, v1.2.2.2.2.2.2.2.1, v1.2.2.2.2.2.2.2.2.1, v1.2.2.2.2.2.2.2.2.2.1, v1.2.2.2.2.2.2.2.2.2.2))) hF hx hb hr hlocks hK hP hD hS (Nat.le_of_ble_eq_true rfl) (Nat.le_of_ble_eq_true rfl) dL_tap_5)
  · have hF := oF hzv1 hF
    by_cases c2 : v1.1 = 6
    · have hF := oT c2 hF
      rw [c2] at hcl
      refine vx_catch (E := "java/lang/UnsupportedOperationException") (name := "java/lang/UnsupportedOperationException") hown [] ⟨0, 5, 6, 13⟩ [] (htab.trans rfl) (fun z hz => nomatch hz) (by decide) (by decide) (hts (.classLink RL 13 "java/lang/UnsupportedOperationException") (List.mem_of_getElem? (i := 1) rfl)) (va_Nw.use rfl (hE.2.2.2.2.1 _ (List.mem_of_getElem? (i := 0) rfl))) hce hcv hcl ?_
      refine lv_astore_n (lv' := [(2, .ref q9), (0, .ref aX), (1, .int p2)]) hx hb dL_tap_6 rfl hl (by decide) rfl (fun ls hl => ?_)
      refine lv_sipush (v := (-1001 : Int32)) hx hb dL_tap_7 (by decide) ?_
      exact vx_ret (fin_i (u := ((-1001 : Int32), (v1.2.2.1, v1.2.2.2.1, v1.2.2.2.2.1, v1.2.2.2.2.2.1, v1.2.2.2.2.2.2.1, v1.2.2.2.2.2.2.2.1, v1.2.2.2.2.2.2.2.2.1, v1.2.2.2.2.2.2.2.2.2.1, v1.2.2.2.2.2.2.2.2.2.2))) hF hx hb hr hlocks hK hP hD hS (Nat.le_of_ble_eq_true rfl) (Nat.le_of_ble_eq_true rfl) dL_tap_10)
    have hF := oF c2 hF
    exact nomatch hF
abbrev RM_L_day : Room := { frames := 8, cells := 1, slots := 6, locals := 209 }
abbrev MC_L_day : Nat := 1
abbrev MS_L_day : Nat := 6
abbrev wf_L_day (K : Nat → ClassId) (aX : Nat) (aC : Nat) (aCr : Nat) (aR : Nat) (aH : Nat) (aHr : Nat) (aT : Nat) (aL : Nat) (aS : Nat) (xS : Int32) (xF : Int32) (v : Int32 × Int32 × Int32 × Int32 × (Nat → Int32) × Int32 × Int32 × Int32 × Int32 × (Nat → Int32)) : va_W := [(aX, .inr (5, [.ref aC, .ref aR, .ref aH, .ref aT, .ref aL, .ref aS, .int xS, .int xF, .int v.2.1, .int v.2.2.1, .int v.2.2.2.1])), (aC, .inr (0, [.ref aCr])), (aCr, .inl (K 0, 55, .inl v.2.2.2.2.1)), (aR, .inr (4, [.int v.2.2.2.2.2.1, .int v.2.2.2.2.2.2.1])), (aH, .inr (2, [.ref aHr, .int v.2.2.2.2.2.2.2.1, .int v.2.2.2.2.2.2.2.2.1])), (aHr, .inl (K 1, 495, .inl v.2.2.2.2.2.2.2.2.2))]
set_option maxHeartbeats 4000000 in
set_option maxRecDepth 100000 in
theorem c_L_day (l : Launch) (hfl : l.stackTraces = false) (D : va_G) (K : Nat → ClassId) (aX : Nat) (aC : Nat) (aCr : Nat) (aR : Nat) (aH : Nat) (aHr : Nat) (aT : Nat) (aL : Nat) (aS : Nat) (xS : Int32) (xF : Int32) (xR : Int32) (xD : Int32) (xC : Int32) (row : Nat → Int32) (rR : Int32) (rD : Int32) (kN : Int32) (kK : Int32) (kF : Nat → Int32) (p2 : Int32) (v : Int32 × Int32 × Int32 × Int32 × (Nat → Int32) × Int32 × Int32 × Int32 × Int32 × (Nat → Int32)) (hF : f_L_day xR xD xC row rR rD kN kK kF p2 = some v) (sz : Nat) :
    (vx_Met l yL_day wsL_day RM_L_day (PC D (TY K) [(aX, .inr (5, [.ref aC, .ref aR, .ref aH, .ref aT, .ref aL, .ref aS, .int xS, .int xF, .int xR, .int xD, .int xC])), (aC, .inr (0, [.ref aCr])), (aCr, .inl (K 0, 55, .inl row)), (aR, .inr (4, [.int rR, .int rD])), (aH, .inr (2, [.ref aHr, .int kN, .int kK])), (aHr, .inl (K 1, 495, .inl kF))] [.ref aX, .int p2] sz) (QI D (TY K) (wf_L_day K aX aC aCr aR aH aHr aT aL aS xS xF) v (va_A [(aX, .inr (5, [.ref aC, .ref aR, .ref aH, .ref aT, .ref aL, .ref aS, .int xS, .int xF, .int xR, .int xD, .int xC])), (aC, .inr (0, [.ref aCr])), (aCr, .inl (K 0, 55, .inl row)), (aR, .inr (4, [.int rR, .int rD])), (aH, .inr (2, [.ref aHr, .int kN, .int kK])), (aHr, .inl (K 1, 495, .inl kF))] sz)) XN MC_L_day MS_L_day (va_A [(aX, .inr (5, [.ref aC, .ref aR, .ref aH, .ref aT, .ref aL, .ref aS, .int xS, .int xF, .int xR, .int xD, .int xC])), (aC, .inr (0, [.ref aCr])), (aCr, .inl (K 0, 55, .inl row)), (aR, .inr (4, [.int rR, .int rD])), (aH, .inr (2, [.ref aHr, .int kN, .int kK])), (aHr, .inl (K 1, 495, .inl kF))] sz)) := by
  refine proH (Qf := fun A => QI D (TY K) (wf_L_day K aX aC aCr aR aH aHr aT aL aS xS xF) v A) (XCf := fun _ => XN) (cc := cL_day) (maxL := 3) (ret := (some .int)) (by decide +kernel) rfl (Nat.le_of_ble_eq_true rfl) ?_
  intro p e s m args below meth c hx hb hr hts hown hlocks hml htab hK A hA hE hP hD hS ls hl
  have hown : s.vm.findClass RL = some m.cls := hown
  have hl : lv_has ls 3 [(0, .ref aX), (1, .int p2)] := hl
  rw [f_L_day] at hF
  refine lv_aload_n hx hb dL_day_0 rfl (lv_at hl 0 rfl) ?_
  refine lv_iload_n hx hb dL_day_1 rfl (lv_at hl 1 rfl) ?_
  obtain ⟨v1, hv1, hF⟩ := oB hF
  refine callX_i (wr := []) (wn := [(aX, .inr (5, [.ref aC, .ref aR, .ref aH, .ref aT, .ref aL, .ref aS, .int xS, .int xF, .int v1.2.2.1, .int v1.2.2.2.1, .int v1.2.2.2.2.1])), (aC, .inr (0, [.ref aCr])), (aCr, .inl (K 0, 55, .inl v1.2.2.2.2.2.1)), (aR, .inr (4, [.int v1.2.2.2.2.2.2.1, .int v1.2.2.2.2.2.2.2.1])), (aH, .inr (2, [.ref aHr, .int v1.2.2.2.2.2.2.2.2.1, .int v1.2.2.2.2.2.2.2.2.2.1])), (aHr, .inl (K 1, 495, .inl v1.2.2.2.2.2.2.2.2.2.2))]) (vx_runV (As := [.int p2]) (rest := []) ⟨hx, hb, hml, hown, hts⟩ (c_X7_day l hfl D K aX aC aCr aR aH aHr aT aL aS xS xF xR xD xC row rR rD kN kK kF p2 v1 hv1 s.heap.size) (cwV 1 hts gL_day_X7_day rfl rfl rfl (by decide +kernel) ⟨(Nat.le_of_ble_eq_true rfl), (Nat.le_of_ble_eq_true rfl)⟩) (prV hE hK hP hD hS hA [0, 1, 2, 3, 4, 5] rfl rfl 5 0 rfl rfl rfl) rfl rfl hl.1 rfl (lv_room (Nat.le_of_ble_eq_true rfl)) dL_day_2 ⟨(Nat.le_of_ble_eq_true rfl), (Nat.le_of_ble_eq_true rfl)⟩) hP hD hS hA [0, 1, 2, 3, 4, 5] [] [0, 1, 2, 3, 4, 5] rfl rfl rfl (by decide) rfl rfl (fun hzv1 H locs hP hD hS => ?_) (fun hzv1 q9 ce H locs hP hD hS hce hcv hcl => ?_)
  · have hF := oT hzv1 hF
    exact vx_ret (fin_i (u := (v1.2.1, (v1.2.2.1, v1.2.2.2.1, v1.2.2.2.2.1, v1.2.2.2.2.2.1, v1.2.2.2.2.2.2.1, v1.2.2.2.2.2.2.2.1, v1.2.2.2.2.2.2.2.2.1, v1.2.2.2.2.2.2.2.2.2.1, v1.2.2.2.2.2.2.2.2.2.2))) hF hx hb hr hlocks hK hP hD hS (Nat.le_of_ble_eq_true rfl) (Nat.le_of_ble_eq_true rfl) dL_day_5)
  · have hF := oF hzv1 hF
    by_cases c2 : v1.1 = 6
    · have hF := oT c2 hF
      rw [c2] at hcl
      refine vx_catch (E := "java/lang/UnsupportedOperationException") (name := "java/lang/UnsupportedOperationException") hown [] ⟨0, 5, 6, 13⟩ [] (htab.trans rfl) (fun z hz => nomatch hz) (by decide) (by decide) (hts (.classLink RL 13 "java/lang/UnsupportedOperationException") (List.mem_of_getElem? (i := 1) rfl)) (va_Nw.use rfl (hE.2.2.2.2.1 _ (List.mem_of_getElem? (i := 0) rfl))) hce hcv hcl ?_
      refine lv_astore_n (lv' := [(2, .ref q9), (0, .ref aX), (1, .int p2)]) hx hb dL_day_6 rfl hl (by decide) rfl (fun ls hl => ?_)
      refine lv_sipush (v := (-1001 : Int32)) hx hb dL_day_7 (by decide) ?_
      exact vx_ret (fin_i (u := ((-1001 : Int32), (v1.2.2.1, v1.2.2.2.1, v1.2.2.2.2.1, v1.2.2.2.2.2.1, v1.2.2.2.2.2.2.1, v1.2.2.2.2.2.2.2.1, v1.2.2.2.2.2.2.2.2.1, v1.2.2.2.2.2.2.2.2.2.1, v1.2.2.2.2.2.2.2.2.2.2))) hF hx hb hr hlocks hK hP hD hS (Nat.le_of_ble_eq_true rfl) (Nat.le_of_ble_eq_true rfl) dL_day_10)
    have hF := oF c2 hF
    exact nomatch hF
abbrev RM_L_bottle : Room := { frames := 8, cells := 1, slots := 6, locals := 209 }
abbrev MC_L_bottle : Nat := 1
abbrev MS_L_bottle : Nat := 6
abbrev wf_L_bottle (K : Nat → ClassId) (aX : Nat) (aC : Nat) (aCr : Nat) (aR : Nat) (aH : Nat) (aHr : Nat) (aT : Nat) (aL : Nat) (aS : Nat) (xS : Int32) (xF : Int32) (v : Int32 × Int32 × Int32 × Int32 × (Nat → Int32) × Int32 × Int32 × Int32 × Int32 × (Nat → Int32)) : va_W := [(aX, .inr (5, [.ref aC, .ref aR, .ref aH, .ref aT, .ref aL, .ref aS, .int xS, .int xF, .int v.2.1, .int v.2.2.1, .int v.2.2.2.1])), (aC, .inr (0, [.ref aCr])), (aCr, .inl (K 0, 55, .inl v.2.2.2.2.1)), (aR, .inr (4, [.int v.2.2.2.2.2.1, .int v.2.2.2.2.2.2.1])), (aH, .inr (2, [.ref aHr, .int v.2.2.2.2.2.2.2.1, .int v.2.2.2.2.2.2.2.2.1])), (aHr, .inl (K 1, 495, .inl v.2.2.2.2.2.2.2.2.2))]
set_option maxHeartbeats 4000000 in
set_option maxRecDepth 100000 in
theorem c_L_bottle (l : Launch) (hfl : l.stackTraces = false) (D : va_G) (K : Nat → ClassId) (aX : Nat) (aC : Nat) (aCr : Nat) (aR : Nat) (aH : Nat) (aHr : Nat) (aT : Nat) (aL : Nat) (aS : Nat) (xS : Int32) (xF : Int32) (xR : Int32) (xD : Int32) (xC : Int32) (row : Nat → Int32) (rR : Int32) (rD : Int32) (kN : Int32) (kK : Int32) (kF : Nat → Int32) (p2 : Int32) (v : Int32 × Int32 × Int32 × Int32 × (Nat → Int32) × Int32 × Int32 × Int32 × Int32 × (Nat → Int32)) (hF : f_L_bottle xR xD xC row rR rD kN kK kF p2 = some v) (sz : Nat) :
    (vx_Met l yL_bottle wsL_bottle RM_L_bottle (PC D (TY K) [(aX, .inr (5, [.ref aC, .ref aR, .ref aH, .ref aT, .ref aL, .ref aS, .int xS, .int xF, .int xR, .int xD, .int xC])), (aC, .inr (0, [.ref aCr])), (aCr, .inl (K 0, 55, .inl row)), (aR, .inr (4, [.int rR, .int rD])), (aH, .inr (2, [.ref aHr, .int kN, .int kK])), (aHr, .inl (K 1, 495, .inl kF))] [.ref aX, .int p2] sz) (QI D (TY K) (wf_L_bottle K aX aC aCr aR aH aHr aT aL aS xS xF) v (va_A [(aX, .inr (5, [.ref aC, .ref aR, .ref aH, .ref aT, .ref aL, .ref aS, .int xS, .int xF, .int xR, .int xD, .int xC])), (aC, .inr (0, [.ref aCr])), (aCr, .inl (K 0, 55, .inl row)), (aR, .inr (4, [.int rR, .int rD])), (aH, .inr (2, [.ref aHr, .int kN, .int kK])), (aHr, .inl (K 1, 495, .inl kF))] sz)) XN MC_L_bottle MS_L_bottle (va_A [(aX, .inr (5, [.ref aC, .ref aR, .ref aH, .ref aT, .ref aL, .ref aS, .int xS, .int xF, .int xR, .int xD, .int xC])), (aC, .inr (0, [.ref aCr])), (aCr, .inl (K 0, 55, .inl row)), (aR, .inr (4, [.int rR, .int rD])), (aH, .inr (2, [.ref aHr, .int kN, .int kK])), (aHr, .inl (K 1, 495, .inl kF))] sz)) := by
  refine proH (Qf := fun A => QI D (TY K) (wf_L_bottle K aX aC aCr aR aH aHr aT aL aS xS xF) v A) (XCf := fun _ => XN) (cc := cL_bottle) (maxL := 3) (ret := (some .int)) (by decide +kernel) rfl (Nat.le_of_ble_eq_true rfl) ?_
  intro p e s m args below meth c hx hb hr hts hown hlocks hml htab hK A hA hE hP hD hS ls hl
  have hown : s.vm.findClass RL = some m.cls := hown
  have hl : lv_has ls 3 [(0, .ref aX), (1, .int p2)] := hl
  rw [f_L_bottle] at hF
  refine lv_aload_n hx hb dL_bottle_0 rfl (lv_at hl 0 rfl) ?_
  refine lv_iload_n hx hb dL_bottle_1 rfl (lv_at hl 1 rfl) ?_
  obtain ⟨v1, hv1, hF⟩ := oB hF
  refine callX_i (wr := []) (wn := [(aX, .inr (5, [.ref aC, .ref aR, .ref aH, .ref aT, .ref aL, .ref aS, .int xS, .int xF, .int v1.2.2.1, .int v1.2.2.2.1, .int v1.2.2.2.2.1])), (aC, .inr (0, [.ref aCr])), (aCr, .inl (K 0, 55, .inl v1.2.2.2.2.2.1)), (aR, .inr (4, [.int v1.2.2.2.2.2.2.1, .int v1.2.2.2.2.2.2.2.1])), (aH, .inr (2, [.ref aHr, .int v1.2.2.2.2.2.2.2.2.1, .int v1.2.2.2.2.2.2.2.2.2.1])), (aHr, .inl (K 1, 495, .inl v1.2.2.2.2.2.2.2.2.2.2))]) (vx_runV (As := [.int p2]) (rest := []) ⟨hx, hb, hml, hown, hts⟩ (c_X7_bottle l hfl D K aX aC aCr aR aH aHr aT aL aS xS xF xR xD xC row rR rD kN kK kF p2 v1 hv1 s.heap.size) (cwV 1 hts gL_bottle_X7_bottle rfl rfl rfl (by decide +kernel) ⟨(Nat.le_of_ble_eq_true rfl), (Nat.le_of_ble_eq_true rfl)⟩) (prV hE hK hP hD hS hA [0, 1, 2, 3, 4, 5] rfl rfl 5 0 rfl rfl rfl) rfl rfl hl.1 rfl (lv_room (Nat.le_of_ble_eq_true rfl)) dL_bottle_2 ⟨(Nat.le_of_ble_eq_true rfl), (Nat.le_of_ble_eq_true rfl)⟩) hP hD hS hA [0, 1, 2, 3, 4, 5] [] [0, 1, 2, 3, 4, 5] rfl rfl rfl (by decide) rfl rfl (fun hzv1 H locs hP hD hS => ?_) (fun hzv1 q9 ce H locs hP hD hS hce hcv hcl => ?_)
  · have hF := oT hzv1 hF
    exact vx_ret (fin_i (u := (v1.2.1, (v1.2.2.1, v1.2.2.2.1, v1.2.2.2.2.1, v1.2.2.2.2.2.1, v1.2.2.2.2.2.2.1, v1.2.2.2.2.2.2.2.1, v1.2.2.2.2.2.2.2.2.1, v1.2.2.2.2.2.2.2.2.2.1, v1.2.2.2.2.2.2.2.2.2.2))) hF hx hb hr hlocks hK hP hD hS (Nat.le_of_ble_eq_true rfl) (Nat.le_of_ble_eq_true rfl) dL_bottle_5)
  · have hF := oF hzv1 hF
    by_cases c2 : v1.1 = 6
    · have hF := oT c2 hF
      rw [c2] at hcl
      refine vx_catch (E := "java/lang/UnsupportedOperationException") (name := "java/lang/UnsupportedOperationException") hown [] ⟨0, 5, 6, 13⟩ [] (htab.trans rfl) (fun z hz => nomatch hz) (by decide) (by decide) (hts (.classLink RL 13 "java/lang/UnsupportedOperationException") (List.mem_of_getElem? (i := 1) rfl)) (va_Nw.use rfl (hE.2.2.2.2.1 _ (List.mem_of_getElem? (i := 0) rfl))) hce hcv hcl ?_
      refine lv_astore_n (lv' := [(2, .ref q9), (0, .ref aX), (1, .int p2)]) hx hb dL_bottle_6 rfl hl (by decide) rfl (fun ls hl => ?_)
      refine lv_sipush (v := (-1001 : Int32)) hx hb dL_bottle_7 (by decide) ?_
      exact vx_ret (fin_i (u := ((-1001 : Int32), (v1.2.2.1, v1.2.2.2.1, v1.2.2.2.2.1, v1.2.2.2.2.2.1, v1.2.2.2.2.2.2.1, v1.2.2.2.2.2.2.2.1, v1.2.2.2.2.2.2.2.2.1, v1.2.2.2.2.2.2.2.2.2.1, v1.2.2.2.2.2.2.2.2.2.2))) hF hx hb hr hlocks hK hP hD hS (Nat.le_of_ble_eq_true rfl) (Nat.le_of_ble_eq_true rfl) dL_bottle_10)
    have hF := oF c2 hF
    exact nomatch hF
abbrev RM_L_letOut : Room := { frames := 8, cells := 1, slots := 6, locals := 209 }
abbrev MC_L_letOut : Nat := 1
abbrev MS_L_letOut : Nat := 6
abbrev wf_L_letOut (K : Nat → ClassId) (aX : Nat) (aC : Nat) (aCr : Nat) (aR : Nat) (aH : Nat) (aHr : Nat) (aT : Nat) (aL : Nat) (aS : Nat) (xS : Int32) (xF : Int32) (v : Int32 × Int32 × Int32 × Int32 × (Nat → Int32) × Int32 × Int32 × Int32 × Int32 × (Nat → Int32)) : va_W := [(aX, .inr (5, [.ref aC, .ref aR, .ref aH, .ref aT, .ref aL, .ref aS, .int xS, .int xF, .int v.2.1, .int v.2.2.1, .int v.2.2.2.1])), (aC, .inr (0, [.ref aCr])), (aCr, .inl (K 0, 55, .inl v.2.2.2.2.1)), (aR, .inr (4, [.int v.2.2.2.2.2.1, .int v.2.2.2.2.2.2.1])), (aH, .inr (2, [.ref aHr, .int v.2.2.2.2.2.2.2.1, .int v.2.2.2.2.2.2.2.2.1])), (aHr, .inl (K 1, 495, .inl v.2.2.2.2.2.2.2.2.2))]
set_option maxHeartbeats 4000000 in
set_option maxRecDepth 100000 in
theorem c_L_letOut (l : Launch) (hfl : l.stackTraces = false) (D : va_G) (K : Nat → ClassId) (aX : Nat) (aC : Nat) (aCr : Nat) (aR : Nat) (aH : Nat) (aHr : Nat) (aT : Nat) (aL : Nat) (aS : Nat) (xS : Int32) (xF : Int32) (xR : Int32) (xD : Int32) (xC : Int32) (row : Nat → Int32) (rR : Int32) (rD : Int32) (kN : Int32) (kK : Int32) (kF : Nat → Int32) (p2 : Int32) (v : Int32 × Int32 × Int32 × Int32 × (Nat → Int32) × Int32 × Int32 × Int32 × Int32 × (Nat → Int32)) (hF : f_L_letOut xR xD xC row rR rD kN kK kF p2 = some v) (sz : Nat) :
    (vx_Met l yL_letOut wsL_letOut RM_L_letOut (PC D (TY K) [(aX, .inr (5, [.ref aC, .ref aR, .ref aH, .ref aT, .ref aL, .ref aS, .int xS, .int xF, .int xR, .int xD, .int xC])), (aC, .inr (0, [.ref aCr])), (aCr, .inl (K 0, 55, .inl row)), (aR, .inr (4, [.int rR, .int rD])), (aH, .inr (2, [.ref aHr, .int kN, .int kK])), (aHr, .inl (K 1, 495, .inl kF))] [.ref aX, .int p2] sz) (QI D (TY K) (wf_L_letOut K aX aC aCr aR aH aHr aT aL aS xS xF) v (va_A [(aX, .inr (5, [.ref aC, .ref aR, .ref aH, .ref aT, .ref aL, .ref aS, .int xS, .int xF, .int xR, .int xD, .int xC])), (aC, .inr (0, [.ref aCr])), (aCr, .inl (K 0, 55, .inl row)), (aR, .inr (4, [.int rR, .int rD])), (aH, .inr (2, [.ref aHr, .int kN, .int kK])), (aHr, .inl (K 1, 495, .inl kF))] sz)) XN MC_L_letOut MS_L_letOut (va_A [(aX, .inr (5, [.ref aC, .ref aR, .ref aH, .ref aT, .ref aL, .ref aS, .int xS, .int xF, .int xR, .int xD, .int xC])), (aC, .inr (0, [.ref aCr])), (aCr, .inl (K 0, 55, .inl row)), (aR, .inr (4, [.int rR, .int rD])), (aH, .inr (2, [.ref aHr, .int kN, .int kK])), (aHr, .inl (K 1, 495, .inl kF))] sz)) := by
  refine proH (Qf := fun A => QI D (TY K) (wf_L_letOut K aX aC aCr aR aH aHr aT aL aS xS xF) v A) (XCf := fun _ => XN) (cc := cL_letOut) (maxL := 3) (ret := (some .int)) (by decide +kernel) rfl (Nat.le_of_ble_eq_true rfl) ?_
  intro p e s m args below meth c hx hb hr hts hown hlocks hml htab hK A hA hE hP hD hS ls hl
  have hown : s.vm.findClass RL = some m.cls := hown
  have hl : lv_has ls 3 [(0, .ref aX), (1, .int p2)] := hl
  rw [f_L_letOut] at hF
  refine lv_aload_n hx hb dL_letOut_0 rfl (lv_at hl 0 rfl) ?_
  refine lv_iload_n hx hb dL_letOut_1 rfl (lv_at hl 1 rfl) ?_
  obtain ⟨v1, hv1, hF⟩ := oB hF
  refine callX_i (wr := []) (wn := [(aX, .inr (5, [.ref aC, .ref aR, .ref aH, .ref aT, .ref aL, .ref aS, .int xS, .int xF, .int v1.2.2.1, .int v1.2.2.2.1, .int v1.2.2.2.2.1])), (aC, .inr (0, [.ref aCr])), (aCr, .inl (K 0, 55, .inl v1.2.2.2.2.2.1)), (aR, .inr (4, [.int v1.2.2.2.2.2.2.1, .int v1.2.2.2.2.2.2.2.1])), (aH, .inr (2, [.ref aHr, .int v1.2.2.2.2.2.2.2.2.1, .int v1.2.2.2.2.2.2.2.2.2.1])), (aHr, .inl (K 1, 495, .inl v1.2.2.2.2.2.2.2.2.2.2))]) (vx_runV (As := [.int p2]) (rest := []) ⟨hx, hb, hml, hown, hts⟩ (c_X7_letOut l hfl D K aX aC aCr aR aH aHr aT aL aS xS xF xR xD xC row rR rD kN kK kF p2 v1 hv1 s.heap.size) (cwV 1 hts gL_letOut_X7_letOut rfl rfl rfl (by decide +kernel) ⟨(Nat.le_of_ble_eq_true rfl), (Nat.le_of_ble_eq_true rfl)⟩) (prV hE hK hP hD hS hA [0, 1, 2, 3, 4, 5] rfl rfl 5 0 rfl rfl rfl) rfl rfl hl.1 rfl (lv_room (Nat.le_of_ble_eq_true rfl)) dL_letOut_2 ⟨(Nat.le_of_ble_eq_true rfl), (Nat.le_of_ble_eq_true rfl)⟩) hP hD hS hA [0, 1, 2, 3, 4, 5] [] [0, 1, 2, 3, 4, 5] rfl rfl rfl (by decide) rfl rfl (fun hzv1 H locs hP hD hS => ?_) (fun hzv1 q9 ce H locs hP hD hS hce hcv hcl => ?_)
  · have hF := oT hzv1 hF
    exact vx_ret (fin_i (u := (v1.2.1, (v1.2.2.1, v1.2.2.2.1, v1.2.2.2.2.1, v1.2.2.2.2.2.1, v1.2.2.2.2.2.2.1, v1.2.2.2.2.2.2.2.1, v1.2.2.2.2.2.2.2.2.1, v1.2.2.2.2.2.2.2.2.2.1, v1.2.2.2.2.2.2.2.2.2.2))) hF hx hb hr hlocks hK hP hD hS (Nat.le_of_ble_eq_true rfl) (Nat.le_of_ble_eq_true rfl) dL_letOut_5)
  · have hF := oF hzv1 hF
    by_cases c2 : v1.1 = 6
    · have hF := oT c2 hF
      rw [c2] at hcl
      refine vx_catch (E := "java/lang/UnsupportedOperationException") (name := "java/lang/UnsupportedOperationException") hown [] ⟨0, 5, 6, 13⟩ [] (htab.trans rfl) (fun z hz => nomatch hz) (by decide) (by decide) (hts (.classLink RL 13 "java/lang/UnsupportedOperationException") (List.mem_of_getElem? (i := 1) rfl)) (va_Nw.use rfl (hE.2.2.2.2.1 _ (List.mem_of_getElem? (i := 0) rfl))) hce hcv hcl ?_
      refine lv_astore_n (lv' := [(2, .ref q9), (0, .ref aX), (1, .int p2)]) hx hb dL_letOut_6 rfl hl (by decide) rfl (fun ls hl => ?_)
      refine lv_sipush (v := (-1001 : Int32)) hx hb dL_letOut_7 (by decide) ?_
      exact vx_ret (fin_i (u := ((-1001 : Int32), (v1.2.2.1, v1.2.2.2.1, v1.2.2.2.2.1, v1.2.2.2.2.2.1, v1.2.2.2.2.2.2.1, v1.2.2.2.2.2.2.2.1, v1.2.2.2.2.2.2.2.2.1, v1.2.2.2.2.2.2.2.2.2.1, v1.2.2.2.2.2.2.2.2.2.2))) hF hx hb hr hlocks hK hP hD hS (Nat.le_of_ble_eq_true rfl) (Nat.le_of_ble_eq_true rfl) dL_letOut_10)
    have hF := oF c2 hF
    exact nomatch hF
abbrev RM_L_read : Room := { frames := 8, cells := 1, slots := 6, locals := 208 }
abbrev MC_L_read : Nat := 1
abbrev MS_L_read : Nat := 6
abbrev wf_L_read (K : Nat → ClassId) (aX : Nat) (aC : Nat) (aCr : Nat) (aR : Nat) (aH : Nat) (aHr : Nat) (aT : Nat) (aL : Nat) (aS : Nat) (xS : Int32) (xF : Int32) (v : Int32 × Int32 × Int32 × Int32 × (Nat → Int32) × Int32 × Int32 × Int32 × Int32 × (Nat → Int32)) : va_W := [(aX, .inr (5, [.ref aC, .ref aR, .ref aH, .ref aT, .ref aL, .ref aS, .int xS, .int xF, .int v.2.1, .int v.2.2.1, .int v.2.2.2.1])), (aC, .inr (0, [.ref aCr])), (aCr, .inl (K 0, 55, .inl v.2.2.2.2.1)), (aR, .inr (4, [.int v.2.2.2.2.2.1, .int v.2.2.2.2.2.2.1])), (aH, .inr (2, [.ref aHr, .int v.2.2.2.2.2.2.2.1, .int v.2.2.2.2.2.2.2.2.1])), (aHr, .inl (K 1, 495, .inl v.2.2.2.2.2.2.2.2.2))]
set_option maxHeartbeats 4000000 in
set_option maxRecDepth 100000 in
theorem c_L_read (l : Launch) (hfl : l.stackTraces = false) (D : va_G) (K : Nat → ClassId) (aX : Nat) (aC : Nat) (aCr : Nat) (aR : Nat) (aH : Nat) (aHr : Nat) (aT : Nat) (aL : Nat) (aS : Nat) (xS : Int32) (xF : Int32) (xR : Int32) (xD : Int32) (xC : Int32) (row : Nat → Int32) (rR : Int32) (rD : Int32) (kN : Int32) (kK : Int32) (kF : Nat → Int32)  (v : Int32 × Int32 × Int32 × Int32 × (Nat → Int32) × Int32 × Int32 × Int32 × Int32 × (Nat → Int32)) (hF : f_L_read xR xD xC row rR rD kN kK kF = some v) (sz : Nat) :
    (vx_Met l yL_read wsL_read RM_L_read (PC D (TY K) [(aX, .inr (5, [.ref aC, .ref aR, .ref aH, .ref aT, .ref aL, .ref aS, .int xS, .int xF, .int xR, .int xD, .int xC])), (aC, .inr (0, [.ref aCr])), (aCr, .inl (K 0, 55, .inl row)), (aR, .inr (4, [.int rR, .int rD])), (aH, .inr (2, [.ref aHr, .int kN, .int kK])), (aHr, .inl (K 1, 495, .inl kF))] [.ref aX] sz) (QI D (TY K) (wf_L_read K aX aC aCr aR aH aHr aT aL aS xS xF) v (va_A [(aX, .inr (5, [.ref aC, .ref aR, .ref aH, .ref aT, .ref aL, .ref aS, .int xS, .int xF, .int xR, .int xD, .int xC])), (aC, .inr (0, [.ref aCr])), (aCr, .inl (K 0, 55, .inl row)), (aR, .inr (4, [.int rR, .int rD])), (aH, .inr (2, [.ref aHr, .int kN, .int kK])), (aHr, .inl (K 1, 495, .inl kF))] sz)) XN MC_L_read MS_L_read (va_A [(aX, .inr (5, [.ref aC, .ref aR, .ref aH, .ref aT, .ref aL, .ref aS, .int xS, .int xF, .int xR, .int xD, .int xC])), (aC, .inr (0, [.ref aCr])), (aCr, .inl (K 0, 55, .inl row)), (aR, .inr (4, [.int rR, .int rD])), (aH, .inr (2, [.ref aHr, .int kN, .int kK])), (aHr, .inl (K 1, 495, .inl kF))] sz)) := by
  refine proH (Qf := fun A => QI D (TY K) (wf_L_read K aX aC aCr aR aH aHr aT aL aS xS xF) v A) (XCf := fun _ => XN) (cc := cL_read) (maxL := 2) (ret := (some .int)) (by decide +kernel) rfl (Nat.le_of_ble_eq_true rfl) ?_
  intro p e s m args below meth c hx hb hr hts hown hlocks hml htab hK A hA hE hP hD hS ls hl
  have hown : s.vm.findClass RL = some m.cls := hown
  have hl : lv_has ls 2 [(0, .ref aX)] := hl
  rw [f_L_read] at hF
  refine lv_aload_n hx hb dL_read_0 rfl (lv_at hl 0 rfl) ?_
  obtain ⟨v1, hv1, hF⟩ := oB hF
  refine callX_i (wr := []) (wn := [(aX, .inr (5, [.ref aC, .ref aR, .ref aH, .ref aT, .ref aL, .ref aS, .int xS, .int xF, .int v1.2.2.1, .int v1.2.2.2.1, .int v1.2.2.2.2.1])), (aC, .inr (0, [.ref aCr])), (aCr, .inl (K 0, 55, .inl v1.2.2.2.2.2.1)), (aR, .inr (4, [.int v1.2.2.2.2.2.2.1, .int v1.2.2.2.2.2.2.2.1])), (aH, .inr (2, [.ref aHr, .int v1.2.2.2.2.2.2.2.2.1, .int v1.2.2.2.2.2.2.2.2.2.1])), (aHr, .inl (K 1, 495, .inl v1.2.2.2.2.2.2.2.2.2.2))]) (vx_runV (As := []) (rest := []) ⟨hx, hb, hml, hown, hts⟩ (c_X7_read l hfl D K aX aC aCr aR aH aHr aT aL aS xS xF xR xD xC row rR rD kN kK kF v1 hv1 s.heap.size) (cwV 0 hts gL_read_X7_read rfl rfl rfl (by decide +kernel) ⟨(Nat.le_of_ble_eq_true rfl), (Nat.le_of_ble_eq_true rfl)⟩) (prV hE hK hP hD hS hA [0, 1, 2, 3, 4, 5] rfl rfl 5 0 rfl rfl rfl) rfl rfl hl.1 rfl (lv_room (Nat.le_of_ble_eq_true rfl)) dL_read_1 ⟨(Nat.le_of_ble_eq_true rfl), (Nat.le_of_ble_eq_true rfl)⟩) hP hD hS hA [0, 1, 2, 3, 4, 5] [] [0, 1, 2, 3, 4, 5] rfl rfl rfl (by decide) rfl rfl (fun hzv1 H locs hP hD hS => ?_) (fun hzv1 q9 ce H locs hP hD hS hce hcv hcl => ?_)
  · have hF := oT hzv1 hF
    exact vx_ret (fin_i (u := (v1.2.1, (v1.2.2.1, v1.2.2.2.1, v1.2.2.2.2.1, v1.2.2.2.2.2.1, v1.2.2.2.2.2.2.1, v1.2.2.2.2.2.2.2.1, v1.2.2.2.2.2.2.2.2.1, v1.2.2.2.2.2.2.2.2.2.1, v1.2.2.2.2.2.2.2.2.2.2))) hF hx hb hr hlocks hK hP hD hS (Nat.le_of_ble_eq_true rfl) (Nat.le_of_ble_eq_true rfl) dL_read_4)
  · have hF := oF hzv1 hF
    by_cases c2 : v1.1 = 6
    · have hF := oT c2 hF
      rw [c2] at hcl
      refine vx_catch (E := "java/lang/UnsupportedOperationException") (name := "java/lang/UnsupportedOperationException") hown [] ⟨0, 4, 5, 13⟩ [] (htab.trans rfl) (fun z hz => nomatch hz) (by decide) (by decide) (hts (.classLink RL 13 "java/lang/UnsupportedOperationException") (List.mem_of_getElem? (i := 1) rfl)) (va_Nw.use rfl (hE.2.2.2.2.1 _ (List.mem_of_getElem? (i := 0) rfl))) hce hcv hcl ?_
      refine lv_astore_n (lv' := [(1, .ref q9), (0, .ref aX)]) hx hb dL_read_5 rfl hl (by decide) rfl (fun ls hl => ?_)
      refine lv_sipush (v := (-1001 : Int32)) hx hb dL_read_6 (by decide) ?_
      exact vx_ret (fin_i (u := ((-1001 : Int32), (v1.2.2.1, v1.2.2.2.1, v1.2.2.2.2.1, v1.2.2.2.2.2.1, v1.2.2.2.2.2.2.1, v1.2.2.2.2.2.2.2.1, v1.2.2.2.2.2.2.2.2.1, v1.2.2.2.2.2.2.2.2.2.1, v1.2.2.2.2.2.2.2.2.2.2))) hF hx hb hr hlocks hK hP hD hS (Nat.le_of_ble_eq_true rfl) (Nat.le_of_ble_eq_true rfl) dL_read_9)
    have hF := oF c2 hF
    exact nomatch hF
abbrev RM_L_of : Room := { frames := 8, cells := 2, slots := 12, locals := 141 }
abbrev MC_L_of : Nat := 2
abbrev MS_L_of : Nat := 12
abbrev wf_L_of (K : Nat → ClassId) (aX : Nat) (aC : Nat) (aCr : Nat) (aR : Nat) (aH : Nat) (aT : Nat) (aL : Nat) (aS : Nat) (xS : Int32) (xF : Int32) (xR : Int32) (xD : Int32) (xC : Int32) (row : Nat → Int32) (v : Int32 × Unit) : va_W := [(aX, .inr (5, [.ref aC, .ref aR, .ref aH, .ref aT, .ref aL, .ref aS, .int xS, .int xF, .int xR, .int xD, .int xC])), (aC, .inr (0, [.ref aCr])), (aCr, .inl (K 0, 55, .inl row))]
set_option maxHeartbeats 4000000 in
set_option maxRecDepth 100000 in
theorem c_L_of (l : Launch) (hfl : l.stackTraces = false) (D : va_G) (K : Nat → ClassId) (aX : Nat) (aC : Nat) (aCr : Nat) (aR : Nat) (aH : Nat) (aT : Nat) (aL : Nat) (aS : Nat) (xS : Int32) (xF : Int32) (xR : Int32) (xD : Int32) (xC : Int32) (row : Nat → Int32) (p2 : Int32) (p3 : Int32) (v : Int32 × Unit) (hF : f_L_of row p2 p3 = some v) (sz : Nat) :
    (vx_Met l yL_of wsL_of RM_L_of (PC D (TY K) [(aX, .inr (5, [.ref aC, .ref aR, .ref aH, .ref aT, .ref aL, .ref aS, .int xS, .int xF, .int xR, .int xD, .int xC])), (aC, .inr (0, [.ref aCr])), (aCr, .inl (K 0, 55, .inl row))] [.ref aX, .int p2, .int p3] sz) (QI D (TY K) (wf_L_of K aX aC aCr aR aH aT aL aS xS xF xR xD xC row) v (va_A [(aX, .inr (5, [.ref aC, .ref aR, .ref aH, .ref aT, .ref aL, .ref aS, .int xS, .int xF, .int xR, .int xD, .int xC])), (aC, .inr (0, [.ref aCr])), (aCr, .inl (K 0, 55, .inl row))] sz)) XN MC_L_of MS_L_of (va_A [(aX, .inr (5, [.ref aC, .ref aR, .ref aH, .ref aT, .ref aL, .ref aS, .int xS, .int xF, .int xR, .int xD, .int xC])), (aC, .inr (0, [.ref aCr])), (aCr, .inl (K 0, 55, .inl row))] sz)) := by
  refine proH (Qf := fun A => QI D (TY K) (wf_L_of K aX aC aCr aR aH aT aL aS xS xF xR xD xC row) v A) (XCf := fun _ => XN) (cc := cL_of) (maxL := 4) (ret := (some .int)) (by decide +kernel) rfl (Nat.le_of_ble_eq_true rfl) ?_
  intro p e s m args below meth c hx hb hr hts hown hlocks hml htab hK A hA hE hP hD hS ls hl
  have hown : s.vm.findClass RL = some m.cls := hown
  have hl : lv_has ls 4 [(0, .ref aX), (1, .int p2), (2, .int p3)] := hl
  rw [f_L_of] at hF
  refine lv_aload_n hx hb dL_of_0 rfl (lv_at hl 0 rfl) ?_
  refine lv_iload_n hx hb dL_of_1 rfl (lv_at hl 1 rfl) ?_
  refine lv_iload_n hx hb dL_of_2 rfl (lv_at hl 2 rfl) ?_
  obtain ⟨v1, hv1, hF⟩ := oB hF
  refine callX_i (wr := []) (wn := [(aX, .inr (5, [.ref aC, .ref aR, .ref aH, .ref aT, .ref aL, .ref aS, .int xS, .int xF, .int xR, .int xD, .int xC])), (aC, .inr (0, [.ref aCr])), (aCr, .inl (K 0, 55, .inl row))]) (vx_runV (As := [.int p2, .int p3]) (rest := []) ⟨hx, hb, hml, hown, hts⟩ (c_X7_memberOf l hfl D K aX aC aCr aR aH aT aL aS xS xF xR xD xC row p2 p3 v1 hv1 s.heap.size) (cwV 2 hts gL_of_X7_memberOf rfl rfl rfl (by decide +kernel) ⟨(Nat.le_of_ble_eq_true rfl), (Nat.le_of_ble_eq_true rfl)⟩) (prV hE hK hP hD hS hA [0, 1, 2] rfl rfl 5 0 rfl rfl rfl) rfl rfl hl.1 rfl (lv_room (Nat.le_of_ble_eq_true rfl)) dL_of_3 ⟨(Nat.le_of_ble_eq_true rfl), (Nat.le_of_ble_eq_true rfl)⟩) hP hD hS hA [0, 1, 2] [] [0, 1, 2] rfl rfl rfl (by decide) rfl rfl (fun hzv1 H locs hP hD hS => ?_) (fun hzv1 q9 ce H locs hP hD hS hce hcv hcl => ?_)
  · have hF := oT hzv1 hF
    exact vx_ret (fin_i (u := (v1.2.1, ())) hF hx hb hr hlocks hK hP hD hS (Nat.le_of_ble_eq_true rfl) (Nat.le_of_ble_eq_true rfl) dL_of_6)
  · have hF := oF hzv1 hF
    by_cases c2 : v1.1 = 1
    · have hF := oT c2 hF
      rw [c2] at hcl
      refine vx_catch (E := "java/lang/IndexOutOfBoundsException") (name := "java/lang/IndexOutOfBoundsException") hown [] ⟨0, 6, 7, 48⟩ [⟨0, 6, 12, 50⟩] (htab.trans rfl) (fun z hz => nomatch hz) (by decide) (by decide) (hts (.classLink RL 48 "java/lang/IndexOutOfBoundsException") (List.mem_of_getElem? (i := 1) rfl)) (va_Nw.use rfl (hE.2.2.2.2.1 _ (List.mem_of_getElem? (i := 1) rfl))) hce hcv hcl ?_
      refine lv_astore_n (lv' := [(3, .ref q9), (0, .ref aX), (1, .int p2), (2, .int p3)]) hx hb dL_of_7 rfl hl (by decide) rfl (fun ls hl => ?_)
      refine lv_sipush (v := (-1001 : Int32)) hx hb dL_of_8 (by decide) ?_
      exact vx_ret (fin_i (u := ((-1001 : Int32), ())) hF hx hb hr hlocks hK hP hD hS (Nat.le_of_ble_eq_true rfl) (Nat.le_of_ble_eq_true rfl) dL_of_11)
    have hF := oF c2 hF
    by_cases c3 : v1.1 = 2
    · have hF := oT c3 hF
      rw [c3] at hcl
      refine vx_catch (E := "java/lang/IllegalArgumentException") (name := "java/lang/IllegalArgumentException") hown [⟨0, 6, 7, 48⟩] ⟨0, 6, 12, 50⟩ [] (htab.trans rfl) (fun z hz => by rcases List.mem_singleton.mp hz with rfl; exact Or.inr ⟨by decide, "java/lang/IndexOutOfBoundsException", (hts (.classLink RL 48 "java/lang/IndexOutOfBoundsException") (List.mem_of_getElem? (i := 1) rfl)), hE.2.2.2.2.2.1 _ (List.mem_of_getElem? (i := 0) rfl)⟩) (by decide) (by decide) (hts (.classLink RL 50 "java/lang/IllegalArgumentException") (List.mem_of_getElem? (i := 2) rfl)) (va_Nw.use rfl (hE.2.2.2.2.1 _ (List.mem_of_getElem? (i := 2) rfl))) hce hcv hcl ?_
      refine lv_astore_n (lv' := [(3, .ref q9), (0, .ref aX), (1, .int p2), (2, .int p3)]) hx hb dL_of_12 rfl hl (by decide) rfl (fun ls hl => ?_)
      refine lv_sipush (v := (-1002 : Int32)) hx hb dL_of_13 (by decide) ?_
      exact vx_ret (fin_i (u := ((-1002 : Int32), ())) hF hx hb hr hlocks hK hP hD hS (Nat.le_of_ble_eq_true rfl) (Nat.le_of_ble_eq_true rfl) dL_of_16)
    have hF := oF c3 hF
    exact nomatch hF
abbrev RM_L_needle : Room := { frames := 8, cells := 1, slots := 6, locals := 140 }
abbrev MC_L_needle : Nat := 1
abbrev MS_L_needle : Nat := 6
abbrev wf_L_needle (K : Nat → ClassId) (aX : Nat) (aC : Nat) (aCr : Nat) (aR : Nat) (aH : Nat) (aT : Nat) (aL : Nat) (aS : Nat) (xS : Int32) (xF : Int32) (xR : Int32) (xD : Int32) (xC : Int32) (row : Nat → Int32) (v : Int32 × Unit) : va_W := [(aX, .inr (5, [.ref aC, .ref aR, .ref aH, .ref aT, .ref aL, .ref aS, .int xS, .int xF, .int xR, .int xD, .int xC])), (aC, .inr (0, [.ref aCr])), (aCr, .inl (K 0, 55, .inl row))]
set_option maxHeartbeats 4000000 in
set_option maxRecDepth 100000 in
theorem c_L_needle (l : Launch) (hfl : l.stackTraces = false) (D : va_G) (K : Nat → ClassId) (aX : Nat) (aC : Nat) (aCr : Nat) (aR : Nat) (aH : Nat) (aT : Nat) (aL : Nat) (aS : Nat) (xS : Int32) (xF : Int32) (xR : Int32) (xD : Int32) (xC : Int32) (row : Nat → Int32) (p2 : Int32) (v : Int32 × Unit) (hF : f_L_needle row p2 = some v) (sz : Nat) :
    (vx_Met l yL_needle wsL_needle RM_L_needle (PC D (TY K) [(aX, .inr (5, [.ref aC, .ref aR, .ref aH, .ref aT, .ref aL, .ref aS, .int xS, .int xF, .int xR, .int xD, .int xC])), (aC, .inr (0, [.ref aCr])), (aCr, .inl (K 0, 55, .inl row))] [.ref aX, .int p2] sz) (QI D (TY K) (wf_L_needle K aX aC aCr aR aH aT aL aS xS xF xR xD xC row) v (va_A [(aX, .inr (5, [.ref aC, .ref aR, .ref aH, .ref aT, .ref aL, .ref aS, .int xS, .int xF, .int xR, .int xD, .int xC])), (aC, .inr (0, [.ref aCr])), (aCr, .inl (K 0, 55, .inl row))] sz)) XN MC_L_needle MS_L_needle (va_A [(aX, .inr (5, [.ref aC, .ref aR, .ref aH, .ref aT, .ref aL, .ref aS, .int xS, .int xF, .int xR, .int xD, .int xC])), (aC, .inr (0, [.ref aCr])), (aCr, .inl (K 0, 55, .inl row))] sz)) := by
  refine proH (Qf := fun A => QI D (TY K) (wf_L_needle K aX aC aCr aR aH aT aL aS xS xF xR xD xC row) v A) (XCf := fun _ => XN) (cc := cL_needle) (maxL := 3) (ret := (some .int)) (by decide +kernel) rfl (Nat.le_of_ble_eq_true rfl) ?_
  intro p e s m args below meth c hx hb hr hts hown hlocks hml htab hK A hA hE hP hD hS ls hl
  have hown : s.vm.findClass RL = some m.cls := hown
  have hl : lv_has ls 3 [(0, .ref aX), (1, .int p2)] := hl
  rw [f_L_needle] at hF
  refine lv_aload_n hx hb dL_needle_0 rfl (lv_at hl 0 rfl) ?_
  refine lv_iload_n hx hb dL_needle_1 rfl (lv_at hl 1 rfl) ?_
  obtain ⟨v1, hv1, hF⟩ := oB hF
  refine callX_i (wr := []) (wn := [(aX, .inr (5, [.ref aC, .ref aR, .ref aH, .ref aT, .ref aL, .ref aS, .int xS, .int xF, .int xR, .int xD, .int xC])), (aC, .inr (0, [.ref aCr])), (aCr, .inl (K 0, 55, .inl row))]) (vx_runV (As := [.int p2]) (rest := []) ⟨hx, hb, hml, hown, hts⟩ (c_X7_needle l hfl D K aX aC aCr aR aH aT aL aS xS xF xR xD xC row p2 v1 hv1 s.heap.size) (cwV 1 hts gL_needle_X7_needle rfl rfl rfl (by decide +kernel) ⟨(Nat.le_of_ble_eq_true rfl), (Nat.le_of_ble_eq_true rfl)⟩) (prV hE hK hP hD hS hA [0, 1, 2] rfl rfl 5 0 rfl rfl rfl) rfl rfl hl.1 rfl (lv_room (Nat.le_of_ble_eq_true rfl)) dL_needle_2 ⟨(Nat.le_of_ble_eq_true rfl), (Nat.le_of_ble_eq_true rfl)⟩) hP hD hS hA [0, 1, 2] [] [0, 1, 2] rfl rfl rfl (by decide) rfl rfl (fun hzv1 H locs hP hD hS => ?_) (fun hzv1 q9 ce H locs hP hD hS hce hcv hcl => ?_)
  · have hF := oT hzv1 hF
    exact vx_ret (fin_i (u := (v1.2.1, ())) hF hx hb hr hlocks hK hP hD hS (Nat.le_of_ble_eq_true rfl) (Nat.le_of_ble_eq_true rfl) dL_needle_5)
  · have hF := oF hzv1 hF
    by_cases c2 : v1.1 = 1
    · have hF := oT c2 hF
      rw [c2] at hcl
      refine vx_catch (E := "java/lang/IndexOutOfBoundsException") (name := "java/lang/IndexOutOfBoundsException") hown [] ⟨0, 5, 6, 48⟩ [] (htab.trans rfl) (fun z hz => nomatch hz) (by decide) (by decide) (hts (.classLink RL 48 "java/lang/IndexOutOfBoundsException") (List.mem_of_getElem? (i := 1) rfl)) (va_Nw.use rfl (hE.2.2.2.2.1 _ (List.mem_of_getElem? (i := 1) rfl))) hce hcv hcl ?_
      refine lv_astore_n (lv' := [(2, .ref q9), (0, .ref aX), (1, .int p2)]) hx hb dL_needle_6 rfl hl (by decide) rfl (fun ls hl => ?_)
      refine lv_sipush (v := (-1001 : Int32)) hx hb dL_needle_7 (by decide) ?_
      exact vx_ret (fin_i (u := ((-1001 : Int32), ())) hF hx hb hr hlocks hK hP hD hS (Nat.le_of_ble_eq_true rfl) (Nat.le_of_ble_eq_true rfl) dL_needle_10)
    have hF := oF c2 hF
    exact nomatch hF
abbrev RM_L_needleAgain : Room := { frames := 8, cells := 1, slots := 6, locals := 140 }
abbrev MC_L_needleAgain : Nat := 1
abbrev MS_L_needleAgain : Nat := 6
abbrev wf_L_needleAgain (K : Nat → ClassId) (aX : Nat) (aC : Nat) (aCr : Nat) (aR : Nat) (aH : Nat) (aT : Nat) (aL : Nat) (aS : Nat) (xS : Int32) (xF : Int32) (xR : Int32) (xD : Int32) (xC : Int32) (row : Nat → Int32) (v : Int32 × Unit) : va_W := [(aX, .inr (5, [.ref aC, .ref aR, .ref aH, .ref aT, .ref aL, .ref aS, .int xS, .int xF, .int xR, .int xD, .int xC])), (aC, .inr (0, [.ref aCr])), (aCr, .inl (K 0, 55, .inl row))]
set_option maxHeartbeats 4000000 in
set_option maxRecDepth 100000 in
theorem c_L_needleAgain (l : Launch) (hfl : l.stackTraces = false) (D : va_G) (K : Nat → ClassId) (aX : Nat) (aC : Nat) (aCr : Nat) (aR : Nat) (aH : Nat) (aT : Nat) (aL : Nat) (aS : Nat) (xS : Int32) (xF : Int32) (xR : Int32) (xD : Int32) (xC : Int32) (row : Nat → Int32) (p2 : Int32) (v : Int32 × Unit) (hF : f_L_needleAgain row p2 = some v) (sz : Nat) :
    (vx_Met l yL_needleAgain wsL_needleAgain RM_L_needleAgain (PC D (TY K) [(aX, .inr (5, [.ref aC, .ref aR, .ref aH, .ref aT, .ref aL, .ref aS, .int xS, .int xF, .int xR, .int xD, .int xC])), (aC, .inr (0, [.ref aCr])), (aCr, .inl (K 0, 55, .inl row))] [.ref aX, .int p2] sz) (QI D (TY K) (wf_L_needleAgain K aX aC aCr aR aH aT aL aS xS xF xR xD xC row) v (va_A [(aX, .inr (5, [.ref aC, .ref aR, .ref aH, .ref aT, .ref aL, .ref aS, .int xS, .int xF, .int xR, .int xD, .int xC])), (aC, .inr (0, [.ref aCr])), (aCr, .inl (K 0, 55, .inl row))] sz)) XN MC_L_needleAgain MS_L_needleAgain (va_A [(aX, .inr (5, [.ref aC, .ref aR, .ref aH, .ref aT, .ref aL, .ref aS, .int xS, .int xF, .int xR, .int xD, .int xC])), (aC, .inr (0, [.ref aCr])), (aCr, .inl (K 0, 55, .inl row))] sz)) := by
  refine proH (Qf := fun A => QI D (TY K) (wf_L_needleAgain K aX aC aCr aR aH aT aL aS xS xF xR xD xC row) v A) (XCf := fun _ => XN) (cc := cL_needleAgain) (maxL := 3) (ret := (some .int)) (by decide +kernel) rfl (Nat.le_of_ble_eq_true rfl) ?_
  intro p e s m args below meth c hx hb hr hts hown hlocks hml htab hK A hA hE hP hD hS ls hl
  have hown : s.vm.findClass RL = some m.cls := hown
  have hl : lv_has ls 3 [(0, .ref aX), (1, .int p2)] := hl
  rw [f_L_needleAgain] at hF
  refine lv_aload_n hx hb dL_needleAgain_0 rfl (lv_at hl 0 rfl) ?_
  refine lv_iload_n hx hb dL_needleAgain_1 rfl (lv_at hl 1 rfl) ?_
  obtain ⟨v1, hv1, hF⟩ := oB hF
  refine callX_i (wr := []) (wn := [(aX, .inr (5, [.ref aC, .ref aR, .ref aH, .ref aT, .ref aL, .ref aS, .int xS, .int xF, .int xR, .int xD, .int xC])), (aC, .inr (0, [.ref aCr])), (aCr, .inl (K 0, 55, .inl row))]) (vx_runV (As := [.int p2]) (rest := []) ⟨hx, hb, hml, hown, hts⟩ (c_X7_needleAgain l hfl D K aX aC aCr aR aH aT aL aS xS xF xR xD xC row p2 v1 hv1 s.heap.size) (cwV 1 hts gL_needleAgain_X7_needleAgain rfl rfl rfl (by decide +kernel) ⟨(Nat.le_of_ble_eq_true rfl), (Nat.le_of_ble_eq_true rfl)⟩) (prV hE hK hP hD hS hA [0, 1, 2] rfl rfl 5 0 rfl rfl rfl) rfl rfl hl.1 rfl (lv_room (Nat.le_of_ble_eq_true rfl)) dL_needleAgain_2 ⟨(Nat.le_of_ble_eq_true rfl), (Nat.le_of_ble_eq_true rfl)⟩) hP hD hS hA [0, 1, 2] [] [0, 1, 2] rfl rfl rfl (by decide) rfl rfl (fun hzv1 H locs hP hD hS => ?_) (fun hzv1 q9 ce H locs hP hD hS hce hcv hcl => ?_)
  · have hF := oT hzv1 hF
    exact vx_ret (fin_i (u := (v1.2.1, ())) hF hx hb hr hlocks hK hP hD hS (Nat.le_of_ble_eq_true rfl) (Nat.le_of_ble_eq_true rfl) dL_needleAgain_5)
  · have hF := oF hzv1 hF
    by_cases c2 : v1.1 = 1
    · have hF := oT c2 hF
      rw [c2] at hcl
      refine vx_catch (E := "java/lang/IndexOutOfBoundsException") (name := "java/lang/IndexOutOfBoundsException") hown [] ⟨0, 5, 6, 48⟩ [] (htab.trans rfl) (fun z hz => nomatch hz) (by decide) (by decide) (hts (.classLink RL 48 "java/lang/IndexOutOfBoundsException") (List.mem_of_getElem? (i := 1) rfl)) (va_Nw.use rfl (hE.2.2.2.2.1 _ (List.mem_of_getElem? (i := 1) rfl))) hce hcv hcl ?_
      refine lv_astore_n (lv' := [(2, .ref q9), (0, .ref aX), (1, .int p2)]) hx hb dL_needleAgain_6 rfl hl (by decide) rfl (fun ls hl => ?_)
      refine lv_sipush (v := (-1001 : Int32)) hx hb dL_needleAgain_7 (by decide) ?_
      exact vx_ret (fin_i (u := ((-1001 : Int32), ())) hF hx hb hr hlocks hK hP hD hS (Nat.le_of_ble_eq_true rfl) (Nat.le_of_ble_eq_true rfl) dL_needleAgain_10)
    have hF := oF c2 hF
    exact nomatch hF
abbrev RM_L_off : Room := { frames := 8, cells := 2, slots := 12, locals := 140 }
abbrev MC_L_off : Nat := 2
abbrev MS_L_off : Nat := 12
abbrev wf_L_off (K : Nat → ClassId) (aX : Nat) (aC : Nat) (aCr : Nat) (aR : Nat) (aH : Nat) (aT : Nat) (aL : Nat) (aS : Nat) (xS : Int32) (xF : Int32) (xR : Int32) (xD : Int32) (xC : Int32) (row : Nat → Int32) (v : Int32 × Unit) : va_W := [(aX, .inr (5, [.ref aC, .ref aR, .ref aH, .ref aT, .ref aL, .ref aS, .int xS, .int xF, .int xR, .int xD, .int xC])), (aC, .inr (0, [.ref aCr])), (aCr, .inl (K 0, 55, .inl row))]
set_option maxHeartbeats 4000000 in
set_option maxRecDepth 100000 in
theorem c_L_off (l : Launch) (hfl : l.stackTraces = false) (D : va_G) (K : Nat → ClassId) (aX : Nat) (aC : Nat) (aCr : Nat) (aR : Nat) (aH : Nat) (aT : Nat) (aL : Nat) (aS : Nat) (xS : Int32) (xF : Int32) (xR : Int32) (xD : Int32) (xC : Int32) (row : Nat → Int32) (p2 : Int32) (v : Int32 × Unit) (hF : f_L_off row p2 = some v) (sz : Nat) :
    (vx_Met l yL_off wsL_off RM_L_off (PC D (TY K) [(aX, .inr (5, [.ref aC, .ref aR, .ref aH, .ref aT, .ref aL, .ref aS, .int xS, .int xF, .int xR, .int xD, .int xC])), (aC, .inr (0, [.ref aCr])), (aCr, .inl (K 0, 55, .inl row))] [.ref aX, .int p2] sz) (QI D (TY K) (wf_L_off K aX aC aCr aR aH aT aL aS xS xF xR xD xC row) v (va_A [(aX, .inr (5, [.ref aC, .ref aR, .ref aH, .ref aT, .ref aL, .ref aS, .int xS, .int xF, .int xR, .int xD, .int xC])), (aC, .inr (0, [.ref aCr])), (aCr, .inl (K 0, 55, .inl row))] sz)) XN MC_L_off MS_L_off (va_A [(aX, .inr (5, [.ref aC, .ref aR, .ref aH, .ref aT, .ref aL, .ref aS, .int xS, .int xF, .int xR, .int xD, .int xC])), (aC, .inr (0, [.ref aCr])), (aCr, .inl (K 0, 55, .inl row))] sz)) := by
  refine proH (Qf := fun A => QI D (TY K) (wf_L_off K aX aC aCr aR aH aT aL aS xS xF xR xD xC row) v A) (XCf := fun _ => XN) (cc := cL_off) (maxL := 3) (ret := (some .int)) (by decide +kernel) rfl (Nat.le_of_ble_eq_true rfl) ?_
  intro p e s m args below meth c hx hb hr hts hown hlocks hml htab hK A hA hE hP hD hS ls hl
  have hown : s.vm.findClass RL = some m.cls := hown
  have hl : lv_has ls 3 [(0, .ref aX), (1, .int p2)] := hl
  rw [f_L_off] at hF
  refine lv_aload_n hx hb dL_off_0 rfl (lv_at hl 0 rfl) ?_
  refine lv_iload_n hx hb dL_off_1 rfl (lv_at hl 1 rfl) ?_
  obtain ⟨v1, hv1, hF⟩ := oB hF
  refine callX_i (wr := []) (wn := [(aX, .inr (5, [.ref aC, .ref aR, .ref aH, .ref aT, .ref aL, .ref aS, .int xS, .int xF, .int xR, .int xD, .int xC])), (aC, .inr (0, [.ref aCr])), (aCr, .inl (K 0, 55, .inl row))]) (vx_runV (As := [.int p2]) (rest := []) ⟨hx, hb, hml, hown, hts⟩ (c_X7_off l hfl D K aX aC aCr aR aH aT aL aS xS xF xR xD xC row p2 v1 hv1 s.heap.size) (cwV 1 hts gL_off_X7_off rfl rfl rfl (by decide +kernel) ⟨(Nat.le_of_ble_eq_true rfl), (Nat.le_of_ble_eq_true rfl)⟩) (prV hE hK hP hD hS hA [0, 1, 2] rfl rfl 5 0 rfl rfl rfl) rfl rfl hl.1 rfl (lv_room (Nat.le_of_ble_eq_true rfl)) dL_off_2 ⟨(Nat.le_of_ble_eq_true rfl), (Nat.le_of_ble_eq_true rfl)⟩) hP hD hS hA [0, 1, 2] [] [0, 1, 2] rfl rfl rfl (by decide) rfl rfl (fun hzv1 H locs hP hD hS => ?_) (fun hzv1 q9 ce H locs hP hD hS hce hcv hcl => ?_)
  · have hF := oT hzv1 hF
    exact vx_ret (fin_i (u := (v1.2.1, ())) hF hx hb hr hlocks hK hP hD hS (Nat.le_of_ble_eq_true rfl) (Nat.le_of_ble_eq_true rfl) dL_off_5)
  · have hF := oF hzv1 hF
    by_cases c2 : v1.1 = 1
    · have hF := oT c2 hF
      rw [c2] at hcl
      refine vx_catch (E := "java/lang/IndexOutOfBoundsException") (name := "java/lang/IndexOutOfBoundsException") hown [] ⟨0, 5, 6, 48⟩ [⟨0, 5, 11, 61⟩] (htab.trans rfl) (fun z hz => nomatch hz) (by decide) (by decide) (hts (.classLink RL 48 "java/lang/IndexOutOfBoundsException") (List.mem_of_getElem? (i := 1) rfl)) (va_Nw.use rfl (hE.2.2.2.2.1 _ (List.mem_of_getElem? (i := 1) rfl))) hce hcv hcl ?_
      refine lv_astore_n (lv' := [(2, .ref q9), (0, .ref aX), (1, .int p2)]) hx hb dL_off_6 rfl hl (by decide) rfl (fun ls hl => ?_)
      refine lv_sipush (v := (-1001 : Int32)) hx hb dL_off_7 (by decide) ?_
      exact vx_ret (fin_i (u := ((-1001 : Int32), ())) hF hx hb hr hlocks hK hP hD hS (Nat.le_of_ble_eq_true rfl) (Nat.le_of_ble_eq_true rfl) dL_off_10)
    have hF := oF c2 hF
    by_cases c3 : v1.1 = 3
    · have hF := oT c3 hF
      rw [c3] at hcl
      refine vx_catch (E := "java/util/NoSuchElementException") (name := "java/util/NoSuchElementException") hown [⟨0, 5, 6, 48⟩] ⟨0, 5, 11, 61⟩ [] (htab.trans rfl) (fun z hz => by rcases List.mem_singleton.mp hz with rfl; exact Or.inr ⟨by decide, "java/lang/IndexOutOfBoundsException", (hts (.classLink RL 48 "java/lang/IndexOutOfBoundsException") (List.mem_of_getElem? (i := 1) rfl)), hE.2.2.2.2.2.1 _ (List.mem_of_getElem? (i := 1) rfl)⟩) (by decide) (by decide) (hts (.classLink RL 61 "java/util/NoSuchElementException") (List.mem_of_getElem? (i := 2) rfl)) (va_Nw.use rfl (hE.2.2.2.2.1 _ (List.mem_of_getElem? (i := 3) rfl))) hce hcv hcl ?_
      refine lv_astore_n (lv' := [(2, .ref q9), (0, .ref aX), (1, .int p2)]) hx hb dL_off_11 rfl hl (by decide) rfl (fun ls hl => ?_)
      refine lv_sipush (v := (-1002 : Int32)) hx hb dL_off_12 (by decide) ?_
      exact vx_ret (fin_i (u := ((-1002 : Int32), ())) hF hx hb hr hlocks hK hP hD hS (Nat.le_of_ble_eq_true rfl) (Nat.le_of_ble_eq_true rfl) dL_off_15)
    have hF := oF c3 hF
    exact nomatch hF
abbrev RM_L_owner : Room := { frames := 7, cells := 1, slots := 6, locals := 120 }
abbrev MC_L_owner : Nat := 1
abbrev MS_L_owner : Nat := 6
abbrev wf_L_owner (K : Nat → ClassId) (aX : Nat) (aC : Nat) (aCr : Nat) (aR : Nat) (aH : Nat) (aT : Nat) (aL : Nat) (aS : Nat) (xS : Int32) (xF : Int32) (xR : Int32) (xD : Int32) (xC : Int32) (row : Nat → Int32) (v : Int32 × Unit) : va_W := [(aX, .inr (5, [.ref aC, .ref aR, .ref aH, .ref aT, .ref aL, .ref aS, .int xS, .int xF, .int xR, .int xD, .int xC])), (aC, .inr (0, [.ref aCr])), (aCr, .inl (K 0, 55, .inl row))]
set_option maxHeartbeats 4000000 in
set_option maxRecDepth 100000 in
theorem c_L_owner (l : Launch) (hfl : l.stackTraces = false) (D : va_G) (K : Nat → ClassId) (aX : Nat) (aC : Nat) (aCr : Nat) (aR : Nat) (aH : Nat) (aT : Nat) (aL : Nat) (aS : Nat) (xS : Int32) (xF : Int32) (xR : Int32) (xD : Int32) (xC : Int32) (row : Nat → Int32) (p2 : Int32) (v : Int32 × Unit) (hF : f_L_owner row p2 = some v) (sz : Nat) :
    (vx_Met l yL_owner wsL_owner RM_L_owner (PC D (TY K) [(aX, .inr (5, [.ref aC, .ref aR, .ref aH, .ref aT, .ref aL, .ref aS, .int xS, .int xF, .int xR, .int xD, .int xC])), (aC, .inr (0, [.ref aCr])), (aCr, .inl (K 0, 55, .inl row))] [.ref aX, .int p2] sz) (QI D (TY K) (wf_L_owner K aX aC aCr aR aH aT aL aS xS xF xR xD xC row) v (va_A [(aX, .inr (5, [.ref aC, .ref aR, .ref aH, .ref aT, .ref aL, .ref aS, .int xS, .int xF, .int xR, .int xD, .int xC])), (aC, .inr (0, [.ref aCr])), (aCr, .inl (K 0, 55, .inl row))] sz)) XN MC_L_owner MS_L_owner (va_A [(aX, .inr (5, [.ref aC, .ref aR, .ref aH, .ref aT, .ref aL, .ref aS, .int xS, .int xF, .int xR, .int xD, .int xC])), (aC, .inr (0, [.ref aCr])), (aCr, .inl (K 0, 55, .inl row))] sz)) := by
  refine proH (Qf := fun A => QI D (TY K) (wf_L_owner K aX aC aCr aR aH aT aL aS xS xF xR xD xC row) v A) (XCf := fun _ => XN) (cc := cL_owner) (maxL := 3) (ret := (some .int)) (by decide +kernel) rfl (Nat.le_of_ble_eq_true rfl) ?_
  intro p e s m args below meth c hx hb hr hts hown hlocks hml htab hK A hA hE hP hD hS ls hl
  have hown : s.vm.findClass RL = some m.cls := hown
  have hl : lv_has ls 3 [(0, .ref aX), (1, .int p2)] := hl
  rw [f_L_owner] at hF
  refine lv_aload_n hx hb dL_owner_0 rfl (lv_at hl 0 rfl) ?_
  refine lv_iload_n hx hb dL_owner_1 rfl (lv_at hl 1 rfl) ?_
  obtain ⟨v1, hv1, hF⟩ := oB hF
  refine callX_i (wr := []) (wn := [(aX, .inr (5, [.ref aC, .ref aR, .ref aH, .ref aT, .ref aL, .ref aS, .int xS, .int xF, .int xR, .int xD, .int xC])), (aC, .inr (0, [.ref aCr])), (aCr, .inl (K 0, 55, .inl row))]) (vx_runV (As := [.int p2]) (rest := []) ⟨hx, hb, hml, hown, hts⟩ (c_X7_owner l hfl D K aX aC aCr aR aH aT aL aS xS xF xR xD xC row p2 v1 hv1 s.heap.size) (cwV 1 hts gL_owner_X7_owner rfl rfl rfl (by decide +kernel) ⟨(Nat.le_of_ble_eq_true rfl), (Nat.le_of_ble_eq_true rfl)⟩) (prV hE hK hP hD hS hA [0, 1, 2] rfl rfl 5 0 rfl rfl rfl) rfl rfl hl.1 rfl (lv_room (Nat.le_of_ble_eq_true rfl)) dL_owner_2 ⟨(Nat.le_of_ble_eq_true rfl), (Nat.le_of_ble_eq_true rfl)⟩) hP hD hS hA [0, 1, 2] [] [0, 1, 2] rfl rfl rfl (by decide) rfl rfl (fun hzv1 H locs hP hD hS => ?_) (fun hzv1 q9 ce H locs hP hD hS hce hcv hcl => ?_)
  · have hF := oT hzv1 hF
    exact vx_ret (fin_i (u := (v1.2.1, ())) hF hx hb hr hlocks hK hP hD hS (Nat.le_of_ble_eq_true rfl) (Nat.le_of_ble_eq_true rfl) dL_owner_5)
  · have hF := oF hzv1 hF
    by_cases c2 : v1.1 = 2
    · have hF := oT c2 hF
      rw [c2] at hcl
      refine vx_catch (E := "java/lang/IllegalArgumentException") (name := "java/lang/IllegalArgumentException") hown [] ⟨0, 5, 6, 50⟩ [⟨0, 5, 11, 61⟩] (htab.trans rfl) (fun z hz => nomatch hz) (by decide) (by decide) (hts (.classLink RL 50 "java/lang/IllegalArgumentException") (List.mem_of_getElem? (i := 1) rfl)) (va_Nw.use rfl (hE.2.2.2.2.1 _ (List.mem_of_getElem? (i := 2) rfl))) hce hcv hcl ?_
      refine lv_astore_n (lv' := [(2, .ref q9), (0, .ref aX), (1, .int p2)]) hx hb dL_owner_6 rfl hl (by decide) rfl (fun ls hl => ?_)
      refine lv_sipush (v := (-1001 : Int32)) hx hb dL_owner_7 (by decide) ?_
      exact vx_ret (fin_i (u := ((-1001 : Int32), ())) hF hx hb hr hlocks hK hP hD hS (Nat.le_of_ble_eq_true rfl) (Nat.le_of_ble_eq_true rfl) dL_owner_10)
    have hF := oF c2 hF
    by_cases c3 : v1.1 = 3
    · have hF := oT c3 hF
      rw [c3] at hcl
      refine vx_catch (E := "java/util/NoSuchElementException") (name := "java/util/NoSuchElementException") hown [⟨0, 5, 6, 50⟩] ⟨0, 5, 11, 61⟩ [] (htab.trans rfl) (fun z hz => by rcases List.mem_singleton.mp hz with rfl; exact Or.inr ⟨by decide, "java/lang/IllegalArgumentException", (hts (.classLink RL 50 "java/lang/IllegalArgumentException") (List.mem_of_getElem? (i := 1) rfl)), hE.2.2.2.2.2.1 _ (List.mem_of_getElem? (i := 2) rfl)⟩) (by decide) (by decide) (hts (.classLink RL 61 "java/util/NoSuchElementException") (List.mem_of_getElem? (i := 2) rfl)) (va_Nw.use rfl (hE.2.2.2.2.1 _ (List.mem_of_getElem? (i := 3) rfl))) hce hcv hcl ?_
      refine lv_astore_n (lv' := [(2, .ref q9), (0, .ref aX), (1, .int p2)]) hx hb dL_owner_11 rfl hl (by decide) rfl (fun ls hl => ?_)
      refine lv_sipush (v := (-1002 : Int32)) hx hb dL_owner_12 (by decide) ?_
      exact vx_ret (fin_i (u := ((-1002 : Int32), ())) hF hx hb hr hlocks hK hP hD hS (Nat.le_of_ble_eq_true rfl) (Nat.le_of_ble_eq_true rfl) dL_owner_15)
    have hF := oF c3 hF
    exact nomatch hF
abbrev RM_L_wouldWin : Room := { frames := 7, cells := 1, slots := 6, locals := 135 }
abbrev MC_L_wouldWin : Nat := 1
abbrev MS_L_wouldWin : Nat := 6
abbrev wf_L_wouldWin (K : Nat → ClassId) (aX : Nat) (aC : Nat) (aCr : Nat) (aR : Nat) (aH : Nat) (aT : Nat) (aL : Nat) (aS : Nat) (xS : Int32) (xF : Int32) (xR : Int32) (xD : Int32) (xC : Int32) (row : Nat → Int32) (v : Int32 × Unit) : va_W := [(aX, .inr (5, [.ref aC, .ref aR, .ref aH, .ref aT, .ref aL, .ref aS, .int xS, .int xF, .int xR, .int xD, .int xC])), (aC, .inr (0, [.ref aCr])), (aCr, .inl (K 0, 55, .inl row))]
set_option maxHeartbeats 4000000 in
set_option maxRecDepth 100000 in
theorem c_L_wouldWin (l : Launch) (hfl : l.stackTraces = false) (D : va_G) (K : Nat → ClassId) (aX : Nat) (aC : Nat) (aCr : Nat) (aR : Nat) (aH : Nat) (aT : Nat) (aL : Nat) (aS : Nat) (xS : Int32) (xF : Int32) (xR : Int32) (xD : Int32) (xC : Int32) (row : Nat → Int32) (p2 : Int32) (v : Int32 × Unit) (hF : f_L_wouldWin row p2 = some v) (sz : Nat) :
    (vx_Met l yL_wouldWin wsL_wouldWin RM_L_wouldWin (PC D (TY K) [(aX, .inr (5, [.ref aC, .ref aR, .ref aH, .ref aT, .ref aL, .ref aS, .int xS, .int xF, .int xR, .int xD, .int xC])), (aC, .inr (0, [.ref aCr])), (aCr, .inl (K 0, 55, .inl row))] [.ref aX, .int p2] sz) (QI D (TY K) (wf_L_wouldWin K aX aC aCr aR aH aT aL aS xS xF xR xD xC row) v (va_A [(aX, .inr (5, [.ref aC, .ref aR, .ref aH, .ref aT, .ref aL, .ref aS, .int xS, .int xF, .int xR, .int xD, .int xC])), (aC, .inr (0, [.ref aCr])), (aCr, .inl (K 0, 55, .inl row))] sz)) XN MC_L_wouldWin MS_L_wouldWin (va_A [(aX, .inr (5, [.ref aC, .ref aR, .ref aH, .ref aT, .ref aL, .ref aS, .int xS, .int xF, .int xR, .int xD, .int xC])), (aC, .inr (0, [.ref aCr])), (aCr, .inl (K 0, 55, .inl row))] sz)) := by
  refine proH (Qf := fun A => QI D (TY K) (wf_L_wouldWin K aX aC aCr aR aH aT aL aS xS xF xR xD xC row) v A) (XCf := fun _ => XN) (cc := cL_wouldWin) (maxL := 3) (ret := (some .int)) (by decide +kernel) rfl (Nat.le_of_ble_eq_true rfl) ?_
  intro p e s m args below meth c hx hb hr hts hown hlocks hml htab hK A hA hE hP hD hS ls hl
  have hown : s.vm.findClass RL = some m.cls := hown
  have hl : lv_has ls 3 [(0, .ref aX), (1, .int p2)] := hl
  rw [f_L_wouldWin] at hF
  refine lv_aload_n hx hb dL_wouldWin_0 rfl (lv_at hl 0 rfl) ?_
  refine lv_iload_n hx hb dL_wouldWin_1 rfl (lv_at hl 1 rfl) ?_
  obtain ⟨v1, hv1, hF⟩ := oB hF
  refine callX_i (wr := []) (wn := [(aX, .inr (5, [.ref aC, .ref aR, .ref aH, .ref aT, .ref aL, .ref aS, .int xS, .int xF, .int xR, .int xD, .int xC])), (aC, .inr (0, [.ref aCr])), (aCr, .inl (K 0, 55, .inl row))]) (vx_runV (As := [.int p2]) (rest := []) ⟨hx, hb, hml, hown, hts⟩ (c_X7_wouldWin l hfl D K aX aC aCr aR aH aT aL aS xS xF xR xD xC row p2 v1 hv1 s.heap.size) (cwV 1 hts gL_wouldWin_X7_wouldWin rfl rfl rfl (by decide +kernel) ⟨(Nat.le_of_ble_eq_true rfl), (Nat.le_of_ble_eq_true rfl)⟩) (prV hE hK hP hD hS hA [0, 1, 2] rfl rfl 5 0 rfl rfl rfl) rfl rfl hl.1 rfl (lv_room (Nat.le_of_ble_eq_true rfl)) dL_wouldWin_2 ⟨(Nat.le_of_ble_eq_true rfl), (Nat.le_of_ble_eq_true rfl)⟩) hP hD hS hA [0, 1, 2] [] [0, 1, 2] rfl rfl rfl (by decide) rfl rfl (fun hzv1 H locs hP hD hS => ?_) (fun hzv1 q9 ce H locs hP hD hS hce hcv hcl => ?_)
  · have hF := oT hzv1 hF
    exact vx_ret (fin_i (u := (v1.2.1, ())) hF hx hb hr hlocks hK hP hD hS (Nat.le_of_ble_eq_true rfl) (Nat.le_of_ble_eq_true rfl) dL_wouldWin_5)
  · have hF := oF hzv1 hF
    by_cases c2 : v1.1 = 2
    · have hF := oT c2 hF
      rw [c2] at hcl
      refine vx_catch (E := "java/lang/IllegalArgumentException") (name := "java/lang/IllegalArgumentException") hown [] ⟨0, 5, 6, 50⟩ [] (htab.trans rfl) (fun z hz => nomatch hz) (by decide) (by decide) (hts (.classLink RL 50 "java/lang/IllegalArgumentException") (List.mem_of_getElem? (i := 1) rfl)) (va_Nw.use rfl (hE.2.2.2.2.1 _ (List.mem_of_getElem? (i := 2) rfl))) hce hcv hcl ?_
      refine lv_astore_n (lv' := [(2, .ref q9), (0, .ref aX), (1, .int p2)]) hx hb dL_wouldWin_6 rfl hl (by decide) rfl (fun ls hl => ?_)
      refine lv_sipush (v := (-1001 : Int32)) hx hb dL_wouldWin_7 (by decide) ?_
      exact vx_ret (fin_i (u := ((-1001 : Int32), ())) hF hx hb hr hlocks hK hP hD hS (Nat.le_of_ble_eq_true rfl) (Nat.le_of_ble_eq_true rfl) dL_wouldWin_10)
    have hF := oF c2 hF
    exact nomatch hF
abbrev RM_L_changeFor : Room := { frames := 8, cells := 2, slots := 12, locals := 158 }
abbrev MC_L_changeFor : Nat := 2
abbrev MS_L_changeFor : Nat := 12
abbrev wf_L_changeFor (K : Nat → ClassId) (aX : Nat) (aC : Nat) (aCr : Nat) (aR : Nat) (aH : Nat) (aT : Nat) (aL : Nat) (aS : Nat) (xS : Int32) (xF : Int32) (xR : Int32) (xD : Int32) (xC : Int32) (row : Nat → Int32) (v : Int32 × Unit) : va_W := [(aX, .inr (5, [.ref aC, .ref aR, .ref aH, .ref aT, .ref aL, .ref aS, .int xS, .int xF, .int xR, .int xD, .int xC])), (aC, .inr (0, [.ref aCr])), (aCr, .inl (K 0, 55, .inl row))]
set_option maxHeartbeats 4000000 in
set_option maxRecDepth 100000 in
theorem c_L_changeFor (l : Launch) (hfl : l.stackTraces = false) (D : va_G) (K : Nat → ClassId) (aX : Nat) (aC : Nat) (aCr : Nat) (aR : Nat) (aH : Nat) (aT : Nat) (aL : Nat) (aS : Nat) (xS : Int32) (xF : Int32) (xR : Int32) (xD : Int32) (xC : Int32) (row : Nat → Int32) (p2 : Int32) (v : Int32 × Unit) (hF : f_L_changeFor row p2 = some v) (sz : Nat) :
    (vx_Met l yL_changeFor wsL_changeFor RM_L_changeFor (PC D (TY K) [(aX, .inr (5, [.ref aC, .ref aR, .ref aH, .ref aT, .ref aL, .ref aS, .int xS, .int xF, .int xR, .int xD, .int xC])), (aC, .inr (0, [.ref aCr])), (aCr, .inl (K 0, 55, .inl row))] [.ref aX, .int p2] sz) (QI D (TY K) (wf_L_changeFor K aX aC aCr aR aH aT aL aS xS xF xR xD xC row) v (va_A [(aX, .inr (5, [.ref aC, .ref aR, .ref aH, .ref aT, .ref aL, .ref aS, .int xS, .int xF, .int xR, .int xD, .int xC])), (aC, .inr (0, [.ref aCr])), (aCr, .inl (K 0, 55, .inl row))] sz)) XN MC_L_changeFor MS_L_changeFor (va_A [(aX, .inr (5, [.ref aC, .ref aR, .ref aH, .ref aT, .ref aL, .ref aS, .int xS, .int xF, .int xR, .int xD, .int xC])), (aC, .inr (0, [.ref aCr])), (aCr, .inl (K 0, 55, .inl row))] sz)) := by
  refine proH (Qf := fun A => QI D (TY K) (wf_L_changeFor K aX aC aCr aR aH aT aL aS xS xF xR xD xC row) v A) (XCf := fun _ => XN) (cc := cL_changeFor) (maxL := 3) (ret := (some .int)) (by decide +kernel) rfl (Nat.le_of_ble_eq_true rfl) ?_
  intro p e s m args below meth c hx hb hr hts hown hlocks hml htab hK A hA hE hP hD hS ls hl
  have hown : s.vm.findClass RL = some m.cls := hown
  have hl : lv_has ls 3 [(0, .ref aX), (1, .int p2)] := hl
  rw [f_L_changeFor] at hF
  refine lv_aload_n hx hb dL_changeFor_0 rfl (lv_at hl 0 rfl) ?_
  refine lv_iload_n hx hb dL_changeFor_1 rfl (lv_at hl 1 rfl) ?_
  obtain ⟨v1, hv1, hF⟩ := oB hF
  refine callX_i (wr := []) (wn := [(aX, .inr (5, [.ref aC, .ref aR, .ref aH, .ref aT, .ref aL, .ref aS, .int xS, .int xF, .int xR, .int xD, .int xC])), (aC, .inr (0, [.ref aCr])), (aCr, .inl (K 0, 55, .inl row))]) (vx_runV (As := [.int p2]) (rest := []) ⟨hx, hb, hml, hown, hts⟩ (c_X7_changeFor l hfl D K aX aC aCr aR aH aT aL aS xS xF xR xD xC row p2 v1 hv1 s.heap.size) (cwV 1 hts gL_changeFor_X7_changeFor rfl rfl rfl (by decide +kernel) ⟨(Nat.le_of_ble_eq_true rfl), (Nat.le_of_ble_eq_true rfl)⟩) (prV hE hK hP hD hS hA [0, 1, 2] rfl rfl 5 0 rfl rfl rfl) rfl rfl hl.1 rfl (lv_room (Nat.le_of_ble_eq_true rfl)) dL_changeFor_2 ⟨(Nat.le_of_ble_eq_true rfl), (Nat.le_of_ble_eq_true rfl)⟩) hP hD hS hA [0, 1, 2] [] [0, 1, 2] rfl rfl rfl (by decide) rfl rfl (fun hzv1 H locs hP hD hS => ?_) (fun hzv1 q9 ce H locs hP hD hS hce hcv hcl => ?_)
  · have hF := oT hzv1 hF
    exact vx_ret (fin_i (u := (v1.2.1, ())) hF hx hb hr hlocks hK hP hD hS (Nat.le_of_ble_eq_true rfl) (Nat.le_of_ble_eq_true rfl) dL_changeFor_5)
  · have hF := oF hzv1 hF
    by_cases c2 : v1.1 = 1
    · have hF := oT c2 hF
      rw [c2] at hcl
      refine vx_catch (E := "java/lang/IndexOutOfBoundsException") (name := "java/lang/IndexOutOfBoundsException") hown [] ⟨0, 5, 6, 48⟩ [⟨0, 5, 11, 61⟩] (htab.trans rfl) (fun z hz => nomatch hz) (by decide) (by decide) (hts (.classLink RL 48 "java/lang/IndexOutOfBoundsException") (List.mem_of_getElem? (i := 1) rfl)) (va_Nw.use rfl (hE.2.2.2.2.1 _ (List.mem_of_getElem? (i := 1) rfl))) hce hcv hcl ?_
      refine lv_astore_n (lv' := [(2, .ref q9), (0, .ref aX), (1, .int p2)]) hx hb dL_changeFor_6 rfl hl (by decide) rfl (fun ls hl => ?_)
      refine lv_sipush (v := (-1001 : Int32)) hx hb dL_changeFor_7 (by decide) ?_
      exact vx_ret (fin_i (u := ((-1001 : Int32), ())) hF hx hb hr hlocks hK hP hD hS (Nat.le_of_ble_eq_true rfl) (Nat.le_of_ble_eq_true rfl) dL_changeFor_10)
    have hF := oF c2 hF
    by_cases c3 : v1.1 = 3
    · have hF := oT c3 hF
      rw [c3] at hcl
      refine vx_catch (E := "java/util/NoSuchElementException") (name := "java/util/NoSuchElementException") hown [⟨0, 5, 6, 48⟩] ⟨0, 5, 11, 61⟩ [] (htab.trans rfl) (fun z hz => by rcases List.mem_singleton.mp hz with rfl; exact Or.inr ⟨by decide, "java/lang/IndexOutOfBoundsException", (hts (.classLink RL 48 "java/lang/IndexOutOfBoundsException") (List.mem_of_getElem? (i := 1) rfl)), hE.2.2.2.2.2.1 _ (List.mem_of_getElem? (i := 1) rfl)⟩) (by decide) (by decide) (hts (.classLink RL 61 "java/util/NoSuchElementException") (List.mem_of_getElem? (i := 2) rfl)) (va_Nw.use rfl (hE.2.2.2.2.1 _ (List.mem_of_getElem? (i := 3) rfl))) hce hcv hcl ?_
      refine lv_astore_n (lv' := [(2, .ref q9), (0, .ref aX), (1, .int p2)]) hx hb dL_changeFor_11 rfl hl (by decide) rfl (fun ls hl => ?_)
      refine lv_sipush (v := (-1002 : Int32)) hx hb dL_changeFor_12 (by decide) ?_
      exact vx_ret (fin_i (u := ((-1002 : Int32), ())) hF hx hb hr hlocks hK hP hD hS (Nat.le_of_ble_eq_true rfl) (Nat.le_of_ble_eq_true rfl) dL_changeFor_15)
    have hF := oF c3 hF
    exact nomatch hF
abbrev RM_L_bestGuess : Room := { frames := 8, cells := 1, slots := 6, locals := 141 }
abbrev MC_L_bestGuess : Nat := 1
abbrev MS_L_bestGuess : Nat := 6
abbrev wf_L_bestGuess (K : Nat → ClassId) (aX : Nat) (aC : Nat) (aCr : Nat) (aR : Nat) (aH : Nat) (aT : Nat) (aL : Nat) (aS : Nat) (xS : Int32) (xF : Int32) (xR : Int32) (xD : Int32) (xC : Int32) (row : Nat → Int32) (v : Int32 × Unit) : va_W := [(aX, .inr (5, [.ref aC, .ref aR, .ref aH, .ref aT, .ref aL, .ref aS, .int xS, .int xF, .int xR, .int xD, .int xC])), (aC, .inr (0, [.ref aCr])), (aCr, .inl (K 0, 55, .inl row))]
set_option maxHeartbeats 4000000 in
set_option maxRecDepth 100000 in
theorem c_L_bestGuess (l : Launch) (hfl : l.stackTraces = false) (D : va_G) (K : Nat → ClassId) (aX : Nat) (aC : Nat) (aCr : Nat) (aR : Nat) (aH : Nat) (aT : Nat) (aL : Nat) (aS : Nat) (xS : Int32) (xF : Int32) (xR : Int32) (xD : Int32) (xC : Int32) (row : Nat → Int32) (p2 : Int32) (v : Int32 × Unit) (hF : f_L_bestGuess row p2 = some v) (sz : Nat) :
    (vx_Met l yL_bestGuess wsL_bestGuess RM_L_bestGuess (PC D (TY K) [(aX, .inr (5, [.ref aC, .ref aR, .ref aH, .ref aT, .ref aL, .ref aS, .int xS, .int xF, .int xR, .int xD, .int xC])), (aC, .inr (0, [.ref aCr])), (aCr, .inl (K 0, 55, .inl row))] [.ref aX, .int p2] sz) (QI D (TY K) (wf_L_bestGuess K aX aC aCr aR aH aT aL aS xS xF xR xD xC row) v (va_A [(aX, .inr (5, [.ref aC, .ref aR, .ref aH, .ref aT, .ref aL, .ref aS, .int xS, .int xF, .int xR, .int xD, .int xC])), (aC, .inr (0, [.ref aCr])), (aCr, .inl (K 0, 55, .inl row))] sz)) XN MC_L_bestGuess MS_L_bestGuess (va_A [(aX, .inr (5, [.ref aC, .ref aR, .ref aH, .ref aT, .ref aL, .ref aS, .int xS, .int xF, .int xR, .int xD, .int xC])), (aC, .inr (0, [.ref aCr])), (aCr, .inl (K 0, 55, .inl row))] sz)) := by
  refine proH (Qf := fun A => QI D (TY K) (wf_L_bestGuess K aX aC aCr aR aH aT aL aS xS xF xR xD xC row) v A) (XCf := fun _ => XN) (cc := cL_bestGuess) (maxL := 3) (ret := (some .int)) (by decide +kernel) rfl (Nat.le_of_ble_eq_true rfl) ?_
  intro p e s m args below meth c hx hb hr hts hown hlocks hml htab hK A hA hE hP hD hS ls hl
  have hown : s.vm.findClass RL = some m.cls := hown
  have hl : lv_has ls 3 [(0, .ref aX), (1, .int p2)] := hl
  rw [f_L_bestGuess] at hF
  refine lv_aload_n hx hb dL_bestGuess_0 rfl (lv_at hl 0 rfl) ?_
  refine lv_iload_n hx hb dL_bestGuess_1 rfl (lv_at hl 1 rfl) ?_
  obtain ⟨v1, hv1, hF⟩ := oB hF
  refine callX_i (wr := []) (wn := [(aX, .inr (5, [.ref aC, .ref aR, .ref aH, .ref aT, .ref aL, .ref aS, .int xS, .int xF, .int xR, .int xD, .int xC])), (aC, .inr (0, [.ref aCr])), (aCr, .inl (K 0, 55, .inl row))]) (vx_runV (As := [.int p2]) (rest := []) ⟨hx, hb, hml, hown, hts⟩ (c_X7_bestGuess l hfl D K aX aC aCr aR aH aT aL aS xS xF xR xD xC row p2 v1 hv1 s.heap.size) (cwV 1 hts gL_bestGuess_X7_bestGuess rfl rfl rfl (by decide +kernel) ⟨(Nat.le_of_ble_eq_true rfl), (Nat.le_of_ble_eq_true rfl)⟩) (prV hE hK hP hD hS hA [0, 1, 2] rfl rfl 5 0 rfl rfl rfl) rfl rfl hl.1 rfl (lv_room (Nat.le_of_ble_eq_true rfl)) dL_bestGuess_2 ⟨(Nat.le_of_ble_eq_true rfl), (Nat.le_of_ble_eq_true rfl)⟩) hP hD hS hA [0, 1, 2] [] [0, 1, 2] rfl rfl rfl (by decide) rfl rfl (fun hzv1 H locs hP hD hS => ?_) (fun hzv1 q9 ce H locs hP hD hS hce hcv hcl => ?_)
  · have hF := oT hzv1 hF
    exact vx_ret (fin_i (u := (v1.2.1, ())) hF hx hb hr hlocks hK hP hD hS (Nat.le_of_ble_eq_true rfl) (Nat.le_of_ble_eq_true rfl) dL_bestGuess_5)
  · have hF := oF hzv1 hF
    by_cases c2 : v1.1 = 1
    · have hF := oT c2 hF
      rw [c2] at hcl
      refine vx_catch (E := "java/lang/IndexOutOfBoundsException") (name := "java/lang/IndexOutOfBoundsException") hown [] ⟨0, 5, 6, 48⟩ [] (htab.trans rfl) (fun z hz => nomatch hz) (by decide) (by decide) (hts (.classLink RL 48 "java/lang/IndexOutOfBoundsException") (List.mem_of_getElem? (i := 1) rfl)) (va_Nw.use rfl (hE.2.2.2.2.1 _ (List.mem_of_getElem? (i := 1) rfl))) hce hcv hcl ?_
      refine lv_astore_n (lv' := [(2, .ref q9), (0, .ref aX), (1, .int p2)]) hx hb dL_bestGuess_6 rfl hl (by decide) rfl (fun ls hl => ?_)
      refine lv_sipush (v := (-1001 : Int32)) hx hb dL_bestGuess_7 (by decide) ?_
      exact vx_ret (fin_i (u := ((-1001 : Int32), ())) hF hx hb hr hlocks hK hP hD hS (Nat.le_of_ble_eq_true rfl) (Nat.le_of_ble_eq_true rfl) dL_bestGuess_10)
    have hF := oF c2 hF
    exact nomatch hF
abbrev RM_L_nearestFree : Room := { frames := 8, cells := 2, slots := 12, locals := 143 }
abbrev MC_L_nearestFree : Nat := 2
abbrev MS_L_nearestFree : Nat := 12
abbrev wf_L_nearestFree (K : Nat → ClassId) (aX : Nat) (aC : Nat) (aCr : Nat) (aR : Nat) (aH : Nat) (aT : Nat) (aL : Nat) (aS : Nat) (xS : Int32) (xF : Int32) (xR : Int32) (xD : Int32) (xC : Int32) (row : Nat → Int32) (v : Int32 × Unit) : va_W := [(aX, .inr (5, [.ref aC, .ref aR, .ref aH, .ref aT, .ref aL, .ref aS, .int xS, .int xF, .int xR, .int xD, .int xC])), (aC, .inr (0, [.ref aCr])), (aCr, .inl (K 0, 55, .inl row))]
set_option maxHeartbeats 4000000 in
set_option maxRecDepth 100000 in
theorem c_L_nearestFree (l : Launch) (hfl : l.stackTraces = false) (D : va_G) (K : Nat → ClassId) (aX : Nat) (aC : Nat) (aCr : Nat) (aR : Nat) (aH : Nat) (aT : Nat) (aL : Nat) (aS : Nat) (xS : Int32) (xF : Int32) (xR : Int32) (xD : Int32) (xC : Int32) (row : Nat → Int32) (p2 : Int32) (v : Int32 × Unit) (hF : f_L_nearestFree row p2 = some v) (sz : Nat) :
    (vx_Met l yL_nearestFree wsL_nearestFree RM_L_nearestFree (PC D (TY K) [(aX, .inr (5, [.ref aC, .ref aR, .ref aH, .ref aT, .ref aL, .ref aS, .int xS, .int xF, .int xR, .int xD, .int xC])), (aC, .inr (0, [.ref aCr])), (aCr, .inl (K 0, 55, .inl row))] [.ref aX, .int p2] sz) (QI D (TY K) (wf_L_nearestFree K aX aC aCr aR aH aT aL aS xS xF xR xD xC row) v (va_A [(aX, .inr (5, [.ref aC, .ref aR, .ref aH, .ref aT, .ref aL, .ref aS, .int xS, .int xF, .int xR, .int xD, .int xC])), (aC, .inr (0, [.ref aCr])), (aCr, .inl (K 0, 55, .inl row))] sz)) XN MC_L_nearestFree MS_L_nearestFree (va_A [(aX, .inr (5, [.ref aC, .ref aR, .ref aH, .ref aT, .ref aL, .ref aS, .int xS, .int xF, .int xR, .int xD, .int xC])), (aC, .inr (0, [.ref aCr])), (aCr, .inl (K 0, 55, .inl row))] sz)) := by
  refine proH (Qf := fun A => QI D (TY K) (wf_L_nearestFree K aX aC aCr aR aH aT aL aS xS xF xR xD xC row) v A) (XCf := fun _ => XN) (cc := cL_nearestFree) (maxL := 3) (ret := (some .int)) (by decide +kernel) rfl (Nat.le_of_ble_eq_true rfl) ?_
  intro p e s m args below meth c hx hb hr hts hown hlocks hml htab hK A hA hE hP hD hS ls hl
  have hown : s.vm.findClass RL = some m.cls := hown
  have hl : lv_has ls 3 [(0, .ref aX), (1, .int p2)] := hl
  rw [f_L_nearestFree] at hF
  refine lv_aload_n hx hb dL_nearestFree_0 rfl (lv_at hl 0 rfl) ?_
  refine lv_iload_n hx hb dL_nearestFree_1 rfl (lv_at hl 1 rfl) ?_
  obtain ⟨v1, hv1, hF⟩ := oB hF
  refine callX_i (wr := []) (wn := [(aX, .inr (5, [.ref aC, .ref aR, .ref aH, .ref aT, .ref aL, .ref aS, .int xS, .int xF, .int xR, .int xD, .int xC])), (aC, .inr (0, [.ref aCr])), (aCr, .inl (K 0, 55, .inl row))]) (vx_runV (As := [.int p2]) (rest := []) ⟨hx, hb, hml, hown, hts⟩ (c_X7_nearestFree l hfl D K aX aC aCr aR aH aT aL aS xS xF xR xD xC row p2 v1 hv1 s.heap.size) (cwV 1 hts gL_nearestFree_X7_nearestFree rfl rfl rfl (by decide +kernel) ⟨(Nat.le_of_ble_eq_true rfl), (Nat.le_of_ble_eq_true rfl)⟩) (prV hE hK hP hD hS hA [0, 1, 2] rfl rfl 5 0 rfl rfl rfl) rfl rfl hl.1 rfl (lv_room (Nat.le_of_ble_eq_true rfl)) dL_nearestFree_2 ⟨(Nat.le_of_ble_eq_true rfl), (Nat.le_of_ble_eq_true rfl)⟩) hP hD hS hA [0, 1, 2] [] [0, 1, 2] rfl rfl rfl (by decide) rfl rfl (fun hzv1 H locs hP hD hS => ?_) (fun hzv1 q9 ce H locs hP hD hS hce hcv hcl => ?_)
  · have hF := oT hzv1 hF
    exact vx_ret (fin_i (u := (v1.2.1, ())) hF hx hb hr hlocks hK hP hD hS (Nat.le_of_ble_eq_true rfl) (Nat.le_of_ble_eq_true rfl) dL_nearestFree_5)
  · have hF := oF hzv1 hF
    by_cases c2 : v1.1 = 1
    · have hF := oT c2 hF
      rw [c2] at hcl
      refine vx_catch (E := "java/lang/IndexOutOfBoundsException") (name := "java/lang/IndexOutOfBoundsException") hown [] ⟨0, 5, 6, 48⟩ [⟨0, 5, 11, 61⟩] (htab.trans rfl) (fun z hz => nomatch hz) (by decide) (by decide) (hts (.classLink RL 48 "java/lang/IndexOutOfBoundsException") (List.mem_of_getElem? (i := 1) rfl)) (va_Nw.use rfl (hE.2.2.2.2.1 _ (List.mem_of_getElem? (i := 1) rfl))) hce hcv hcl ?_
      refine lv_astore_n (lv' := [(2, .ref q9), (0, .ref aX), (1, .int p2)]) hx hb dL_nearestFree_6 rfl hl (by decide) rfl (fun ls hl => ?_)
      refine lv_sipush (v := (-1001 : Int32)) hx hb dL_nearestFree_7 (by decide) ?_
      exact vx_ret (fin_i (u := ((-1001 : Int32), ())) hF hx hb hr hlocks hK hP hD hS (Nat.le_of_ble_eq_true rfl) (Nat.le_of_ble_eq_true rfl) dL_nearestFree_10)
    have hF := oF c2 hF
    by_cases c3 : v1.1 = 3
    · have hF := oT c3 hF
      rw [c3] at hcl
      refine vx_catch (E := "java/util/NoSuchElementException") (name := "java/util/NoSuchElementException") hown [⟨0, 5, 6, 48⟩] ⟨0, 5, 11, 61⟩ [] (htab.trans rfl) (fun z hz => by rcases List.mem_singleton.mp hz with rfl; exact Or.inr ⟨by decide, "java/lang/IndexOutOfBoundsException", (hts (.classLink RL 48 "java/lang/IndexOutOfBoundsException") (List.mem_of_getElem? (i := 1) rfl)), hE.2.2.2.2.2.1 _ (List.mem_of_getElem? (i := 1) rfl)⟩) (by decide) (by decide) (hts (.classLink RL 61 "java/util/NoSuchElementException") (List.mem_of_getElem? (i := 2) rfl)) (va_Nw.use rfl (hE.2.2.2.2.1 _ (List.mem_of_getElem? (i := 3) rfl))) hce hcv hcl ?_
      refine lv_astore_n (lv' := [(2, .ref q9), (0, .ref aX), (1, .int p2)]) hx hb dL_nearestFree_11 rfl hl (by decide) rfl (fun ls hl => ?_)
      refine lv_sipush (v := (-1002 : Int32)) hx hb dL_nearestFree_12 (by decide) ?_
      exact vx_ret (fin_i (u := ((-1002 : Int32), ())) hF hx hb hr hlocks hK hP hD hS (Nat.le_of_ble_eq_true rfl) (Nat.le_of_ble_eq_true rfl) dL_nearestFree_15)
    have hF := oF c3 hF
    exact nomatch hF
abbrev RM_L_ranked : Room := { frames := 7, cells := 1, slots := 6, locals := 139 }
abbrev MC_L_ranked : Nat := 1
abbrev MS_L_ranked : Nat := 6
abbrev wf_L_ranked (K : Nat → ClassId) (aX : Nat) (aC : Nat) (aCr : Nat) (aR : Nat) (aH : Nat) (aT : Nat) (aL : Nat) (aS : Nat) (xS : Int32) (xF : Int32) (xR : Int32) (xD : Int32) (xC : Int32) (row : Nat → Int32) (v : Int32 × Unit) : va_W := [(aX, .inr (5, [.ref aC, .ref aR, .ref aH, .ref aT, .ref aL, .ref aS, .int xS, .int xF, .int xR, .int xD, .int xC])), (aC, .inr (0, [.ref aCr])), (aCr, .inl (K 0, 55, .inl row))]
set_option maxHeartbeats 4000000 in
set_option maxRecDepth 100000 in
theorem c_L_ranked (l : Launch) (hfl : l.stackTraces = false) (D : va_G) (K : Nat → ClassId) (aX : Nat) (aC : Nat) (aCr : Nat) (aR : Nat) (aH : Nat) (aT : Nat) (aL : Nat) (aS : Nat) (xS : Int32) (xF : Int32) (xR : Int32) (xD : Int32) (xC : Int32) (row : Nat → Int32) (p2 : Int32) (p3 : Int32) (v : Int32 × Unit) (hF : f_L_ranked row p2 p3 = some v) (sz : Nat) :
    (vx_Met l yL_ranked wsL_ranked RM_L_ranked (PC D (TY K) [(aX, .inr (5, [.ref aC, .ref aR, .ref aH, .ref aT, .ref aL, .ref aS, .int xS, .int xF, .int xR, .int xD, .int xC])), (aC, .inr (0, [.ref aCr])), (aCr, .inl (K 0, 55, .inl row))] [.ref aX, .int p2, .int p3] sz) (QI D (TY K) (wf_L_ranked K aX aC aCr aR aH aT aL aS xS xF xR xD xC row) v (va_A [(aX, .inr (5, [.ref aC, .ref aR, .ref aH, .ref aT, .ref aL, .ref aS, .int xS, .int xF, .int xR, .int xD, .int xC])), (aC, .inr (0, [.ref aCr])), (aCr, .inl (K 0, 55, .inl row))] sz)) XN MC_L_ranked MS_L_ranked (va_A [(aX, .inr (5, [.ref aC, .ref aR, .ref aH, .ref aT, .ref aL, .ref aS, .int xS, .int xF, .int xR, .int xD, .int xC])), (aC, .inr (0, [.ref aCr])), (aCr, .inl (K 0, 55, .inl row))] sz)) := by
  refine proH (Qf := fun A => QI D (TY K) (wf_L_ranked K aX aC aCr aR aH aT aL aS xS xF xR xD xC row) v A) (XCf := fun _ => XN) (cc := cL_ranked) (maxL := 4) (ret := (some .int)) (by decide +kernel) rfl (Nat.le_of_ble_eq_true rfl) ?_
  intro p e s m args below meth c hx hb hr hts hown hlocks hml htab hK A hA hE hP hD hS ls hl
  have hown : s.vm.findClass RL = some m.cls := hown
  have hl : lv_has ls 4 [(0, .ref aX), (1, .int p2), (2, .int p3)] := hl
  rw [f_L_ranked] at hF
  refine lv_aload_n hx hb dL_ranked_0 rfl (lv_at hl 0 rfl) ?_
  refine lv_iload_n hx hb dL_ranked_1 rfl (lv_at hl 1 rfl) ?_
  refine lv_iload_n hx hb dL_ranked_2 rfl (lv_at hl 2 rfl) ?_
  obtain ⟨v1, hv1, hF⟩ := oB hF
  refine callX_i (wr := []) (wn := [(aX, .inr (5, [.ref aC, .ref aR, .ref aH, .ref aT, .ref aL, .ref aS, .int xS, .int xF, .int xR, .int xD, .int xC])), (aC, .inr (0, [.ref aCr])), (aCr, .inl (K 0, 55, .inl row))]) (vx_runV (As := [.int p2, .int p3]) (rest := []) ⟨hx, hb, hml, hown, hts⟩ (c_X7_ranked l hfl D K aX aC aCr aR aH aT aL aS xS xF xR xD xC row p2 p3 v1 hv1 s.heap.size) (cwV 2 hts gL_ranked_X7_ranked rfl rfl rfl (by decide +kernel) ⟨(Nat.le_of_ble_eq_true rfl), (Nat.le_of_ble_eq_true rfl)⟩) (prV hE hK hP hD hS hA [0, 1, 2] rfl rfl 5 0 rfl rfl rfl) rfl rfl hl.1 rfl (lv_room (Nat.le_of_ble_eq_true rfl)) dL_ranked_3 ⟨(Nat.le_of_ble_eq_true rfl), (Nat.le_of_ble_eq_true rfl)⟩) hP hD hS hA [0, 1, 2] [] [0, 1, 2] rfl rfl rfl (by decide) rfl rfl (fun hzv1 H locs hP hD hS => ?_) (fun hzv1 q9 ce H locs hP hD hS hce hcv hcl => ?_)
  · have hF := oT hzv1 hF
    exact vx_ret (fin_i (u := (v1.2.1, ())) hF hx hb hr hlocks hK hP hD hS (Nat.le_of_ble_eq_true rfl) (Nat.le_of_ble_eq_true rfl) dL_ranked_6)
  · have hF := oF hzv1 hF
    by_cases c2 : v1.1 = 2
    · have hF := oT c2 hF
      rw [c2] at hcl
      refine vx_catch (E := "java/lang/IllegalArgumentException") (name := "java/lang/IllegalArgumentException") hown [] ⟨0, 6, 7, 50⟩ [⟨0, 6, 12, 61⟩] (htab.trans rfl) (fun z hz => nomatch hz) (by decide) (by decide) (hts (.classLink RL 50 "java/lang/IllegalArgumentException") (List.mem_of_getElem? (i := 1) rfl)) (va_Nw.use rfl (hE.2.2.2.2.1 _ (List.mem_of_getElem? (i := 2) rfl))) hce hcv hcl ?_
      refine lv_astore_n (lv' := [(3, .ref q9), (0, .ref aX), (1, .int p2), (2, .int p3)]) hx hb dL_ranked_7 rfl hl (by decide) rfl (fun ls hl => ?_)
      refine lv_sipush (v := (-1001 : Int32)) hx hb dL_ranked_8 (by decide) ?_
      exact vx_ret (fin_i (u := ((-1001 : Int32), ())) hF hx hb hr hlocks hK hP hD hS (Nat.le_of_ble_eq_true rfl) (Nat.le_of_ble_eq_true rfl) dL_ranked_11)
    have hF := oF c2 hF
    by_cases c3 : v1.1 = 3
    · have hF := oT c3 hF
      rw [c3] at hcl
      refine vx_catch (E := "java/util/NoSuchElementException") (name := "java/util/NoSuchElementException") hown [⟨0, 6, 7, 50⟩] ⟨0, 6, 12, 61⟩ [] (htab.trans rfl) (fun z hz => by rcases List.mem_singleton.mp hz with rfl; exact Or.inr ⟨by decide, "java/lang/IllegalArgumentException", (hts (.classLink RL 50 "java/lang/IllegalArgumentException") (List.mem_of_getElem? (i := 1) rfl)), hE.2.2.2.2.2.1 _ (List.mem_of_getElem? (i := 2) rfl)⟩) (by decide) (by decide) (hts (.classLink RL 61 "java/util/NoSuchElementException") (List.mem_of_getElem? (i := 2) rfl)) (va_Nw.use rfl (hE.2.2.2.2.1 _ (List.mem_of_getElem? (i := 3) rfl))) hce hcv hcl ?_
      refine lv_astore_n (lv' := [(3, .ref q9), (0, .ref aX), (1, .int p2), (2, .int p3)]) hx hb dL_ranked_12 rfl hl (by decide) rfl (fun ls hl => ?_)
      refine lv_sipush (v := (-1002 : Int32)) hx hb dL_ranked_13 (by decide) ?_
      exact vx_ret (fin_i (u := ((-1002 : Int32), ())) hF hx hb hr hlocks hK hP hD hS (Nat.le_of_ble_eq_true rfl) (Nat.le_of_ble_eq_true rfl) dL_ranked_16)
    have hF := oF c3 hF
    exact nomatch hF
abbrev RM_L_weather : Room := { frames := 7, cells := 1, slots := 6, locals := 119 }
abbrev MC_L_weather : Nat := 1
abbrev MS_L_weather : Nat := 6
abbrev wf_L_weather (K : Nat → ClassId) (aX : Nat) (aC : Nat) (aCr : Nat) (aR : Nat) (aH : Nat) (aT : Nat) (aL : Nat) (aS : Nat) (xS : Int32) (xF : Int32) (xR : Int32) (xD : Int32) (xC : Int32) (row : Nat → Int32) (v : Int32 × Unit) : va_W := [(aX, .inr (5, [.ref aC, .ref aR, .ref aH, .ref aT, .ref aL, .ref aS, .int xS, .int xF, .int xR, .int xD, .int xC])), (aC, .inr (0, [.ref aCr])), (aCr, .inl (K 0, 55, .inl row))]
set_option maxHeartbeats 4000000 in
set_option maxRecDepth 100000 in
theorem c_L_weather (l : Launch) (hfl : l.stackTraces = false) (D : va_G) (K : Nat → ClassId) (aX : Nat) (aC : Nat) (aCr : Nat) (aR : Nat) (aH : Nat) (aT : Nat) (aL : Nat) (aS : Nat) (xS : Int32) (xF : Int32) (xR : Int32) (xD : Int32) (xC : Int32) (row : Nat → Int32) (p2 : Int32) (v : Int32 × Unit) (hF : f_L_weather row p2 = some v) (sz : Nat) :
    (vx_Met l yL_weather wsL_weather RM_L_weather (PC D (TY K) [(aX, .inr (5, [.ref aC, .ref aR, .ref aH, .ref aT, .ref aL, .ref aS, .int xS, .int xF, .int xR, .int xD, .int xC])), (aC, .inr (0, [.ref aCr])), (aCr, .inl (K 0, 55, .inl row))] [.ref aX, .int p2] sz) (QI D (TY K) (wf_L_weather K aX aC aCr aR aH aT aL aS xS xF xR xD xC row) v (va_A [(aX, .inr (5, [.ref aC, .ref aR, .ref aH, .ref aT, .ref aL, .ref aS, .int xS, .int xF, .int xR, .int xD, .int xC])), (aC, .inr (0, [.ref aCr])), (aCr, .inl (K 0, 55, .inl row))] sz)) XN MC_L_weather MS_L_weather (va_A [(aX, .inr (5, [.ref aC, .ref aR, .ref aH, .ref aT, .ref aL, .ref aS, .int xS, .int xF, .int xR, .int xD, .int xC])), (aC, .inr (0, [.ref aCr])), (aCr, .inl (K 0, 55, .inl row))] sz)) := by
  refine proH (Qf := fun A => QI D (TY K) (wf_L_weather K aX aC aCr aR aH aT aL aS xS xF xR xD xC row) v A) (XCf := fun _ => XN) (cc := cL_weather) (maxL := 3) (ret := (some .int)) (by decide +kernel) rfl (Nat.le_of_ble_eq_true rfl) ?_
  intro p e s m args below meth c hx hb hr hts hown hlocks hml htab hK A hA hE hP hD hS ls hl
  have hown : s.vm.findClass RL = some m.cls := hown
  have hl : lv_has ls 3 [(0, .ref aX), (1, .int p2)] := hl
  rw [f_L_weather] at hF
  refine lv_aload_n hx hb dL_weather_0 rfl (lv_at hl 0 rfl) ?_
  refine lv_iload_n hx hb dL_weather_1 rfl (lv_at hl 1 rfl) ?_
  obtain ⟨v1, hv1, hF⟩ := oB hF
  refine callX_i (wr := []) (wn := [(aX, .inr (5, [.ref aC, .ref aR, .ref aH, .ref aT, .ref aL, .ref aS, .int xS, .int xF, .int xR, .int xD, .int xC])), (aC, .inr (0, [.ref aCr])), (aCr, .inl (K 0, 55, .inl row))]) (vx_runV (As := [.int p2]) (rest := []) ⟨hx, hb, hml, hown, hts⟩ (c_X7_weather l hfl D K aX aC aCr aR aH aT aL aS xS xF xR xD xC row p2 v1 hv1 s.heap.size) (cwV 1 hts gL_weather_X7_weather rfl rfl rfl (by decide +kernel) ⟨(Nat.le_of_ble_eq_true rfl), (Nat.le_of_ble_eq_true rfl)⟩) (prV hE hK hP hD hS hA [0, 1, 2] rfl rfl 5 0 rfl rfl rfl) rfl rfl hl.1 rfl (lv_room (Nat.le_of_ble_eq_true rfl)) dL_weather_2 ⟨(Nat.le_of_ble_eq_true rfl), (Nat.le_of_ble_eq_true rfl)⟩) hP hD hS hA [0, 1, 2] [] [0, 1, 2] rfl rfl rfl (by decide) rfl rfl (fun hzv1 H locs hP hD hS => ?_) (fun hzv1 q9 ce H locs hP hD hS hce hcv hcl => ?_)
  · have hF := oT hzv1 hF
    exact vx_ret (fin_i (u := (v1.2.1, ())) hF hx hb hr hlocks hK hP hD hS (Nat.le_of_ble_eq_true rfl) (Nat.le_of_ble_eq_true rfl) dL_weather_5)
  · have hF := oF hzv1 hF
    by_cases c2 : v1.1 = 2
    · have hF := oT c2 hF
      rw [c2] at hcl
      refine vx_catch (E := "java/lang/IllegalArgumentException") (name := "java/lang/IllegalArgumentException") hown [] ⟨0, 5, 6, 50⟩ [] (htab.trans rfl) (fun z hz => nomatch hz) (by decide) (by decide) (hts (.classLink RL 50 "java/lang/IllegalArgumentException") (List.mem_of_getElem? (i := 1) rfl)) (va_Nw.use rfl (hE.2.2.2.2.1 _ (List.mem_of_getElem? (i := 2) rfl))) hce hcv hcl ?_
      refine lv_astore_n (lv' := [(2, .ref q9), (0, .ref aX), (1, .int p2)]) hx hb dL_weather_6 rfl hl (by decide) rfl (fun ls hl => ?_)
      refine lv_sipush (v := (-1001 : Int32)) hx hb dL_weather_7 (by decide) ?_
      exact vx_ret (fin_i (u := ((-1001 : Int32), ())) hF hx hb hr hlocks hK hP hD hS (Nat.le_of_ble_eq_true rfl) (Nat.le_of_ble_eq_true rfl) dL_weather_10)
    have hF := oF c2 hF
    exact nomatch hF
abbrev RM_L_append : Room := { frames := 7, cells := 1, slots := 6, locals := 119 }
abbrev MC_L_append : Nat := 1
abbrev MS_L_append : Nat := 6
abbrev wf_L_append (K : Nat → ClassId) (aX : Nat) (aC : Nat) (aR : Nat) (aH : Nat) (aT : Nat) (aTc : Nat) (aTp : Nat) (aL : Nat) (aS : Nat) (xS : Int32) (xF : Int32) (xR : Int32) (xD : Int32) (xC : Int32) (tS : Int32) (tQ : Int32) (tF : Int32) (v : Int32 × Int32 × (Nat → Int32)) : va_W := [(aX, .inr (5, [.ref aC, .ref aR, .ref aH, .ref aT, .ref aL, .ref aS, .int xS, .int xF, .int xR, .int xD, .int xC])), (aT, .inr (1, [.ref aTc, .ref aTp, .int v.2.1, .int tS, .int tQ, .int tF])), (aTc, .inl (K 2, 60, .inl v.2.2))]
set_option maxHeartbeats 4000000 in
set_option maxRecDepth 100000 in
theorem c_L_append (l : Launch) (hfl : l.stackTraces = false) (D : va_G) (K : Nat → ClassId) (aX : Nat) (aC : Nat) (aR : Nat) (aH : Nat) (aT : Nat) (aTc : Nat) (aTp : Nat) (aL : Nat) (aS : Nat) (xS : Int32) (xF : Int32) (xR : Int32) (xD : Int32) (xC : Int32) (tL : Int32) (tS : Int32) (tQ : Int32) (tF : Int32) (tC : Nat → Int32) (p2 : Int32) (v : Int32 × Int32 × (Nat → Int32)) (hF : f_L_append tL tC p2 = some v) (sz : Nat) :
    (vx_Met l yL_append wsL_append RM_L_append (PC D (TY K) [(aX, .inr (5, [.ref aC, .ref aR, .ref aH, .ref aT, .ref aL, .ref aS, .int xS, .int xF, .int xR, .int xD, .int xC])), (aT, .inr (1, [.ref aTc, .ref aTp, .int tL, .int tS, .int tQ, .int tF])), (aTc, .inl (K 2, 60, .inl tC))] [.ref aX, .int p2] sz) (QI D (TY K) (wf_L_append K aX aC aR aH aT aTc aTp aL aS xS xF xR xD xC tS tQ tF) v (va_A [(aX, .inr (5, [.ref aC, .ref aR, .ref aH, .ref aT, .ref aL, .ref aS, .int xS, .int xF, .int xR, .int xD, .int xC])), (aT, .inr (1, [.ref aTc, .ref aTp, .int tL, .int tS, .int tQ, .int tF])), (aTc, .inl (K 2, 60, .inl tC))] sz)) XN MC_L_append MS_L_append (va_A [(aX, .inr (5, [.ref aC, .ref aR, .ref aH, .ref aT, .ref aL, .ref aS, .int xS, .int xF, .int xR, .int xD, .int xC])), (aT, .inr (1, [.ref aTc, .ref aTp, .int tL, .int tS, .int tQ, .int tF])), (aTc, .inl (K 2, 60, .inl tC))] sz)) := by
  refine proH (Qf := fun A => QI D (TY K) (wf_L_append K aX aC aR aH aT aTc aTp aL aS xS xF xR xD xC tS tQ tF) v A) (XCf := fun _ => XN) (cc := cL_append) (maxL := 3) (ret := (some .int)) (by decide +kernel) rfl (Nat.le_of_ble_eq_true rfl) ?_
  intro p e s m args below meth c hx hb hr hts hown hlocks hml htab hK A hA hE hP hD hS ls hl
  have hown : s.vm.findClass RL = some m.cls := hown
  have hl : lv_has ls 3 [(0, .ref aX), (1, .int p2)] := hl
  rw [f_L_append] at hF
  refine lv_aload_n hx hb dL_append_0 rfl (lv_at hl 0 rfl) ?_
  refine lv_iload_n hx hb dL_append_1 rfl (lv_at hl 1 rfl) ?_
  obtain ⟨v1, hv1, hF⟩ := oB hF
  refine callX_i (wr := []) (wn := [(aX, .inr (5, [.ref aC, .ref aR, .ref aH, .ref aT, .ref aL, .ref aS, .int xS, .int xF, .int xR, .int xD, .int xC])), (aT, .inr (1, [.ref aTc, .ref aTp, .int v1.2.2.1, .int tS, .int tQ, .int tF])), (aTc, .inl (K 2, 60, .inl v1.2.2.2))]) (vx_runV (As := [.int p2]) (rest := []) ⟨hx, hb, hml, hown, hts⟩ (c_X7_append l hfl D K aX aC aR aH aT aTc aTp aL aS xS xF xR xD xC tL tS tQ tF tC p2 v1 hv1 s.heap.size) (cwV 1 hts gL_append_X7_append rfl rfl rfl (by decide +kernel) ⟨(Nat.le_of_ble_eq_true rfl), (Nat.le_of_ble_eq_true rfl)⟩) (prV hE hK hP hD hS hA [0, 1, 2] rfl rfl 5 0 rfl rfl rfl) rfl rfl hl.1 rfl (lv_room (Nat.le_of_ble_eq_true rfl)) dL_append_2 ⟨(Nat.le_of_ble_eq_true rfl), (Nat.le_of_ble_eq_true rfl)⟩) hP hD hS hA [0, 1, 2] [] [0, 1, 2] rfl rfl rfl (by decide) rfl rfl (fun hzv1 H locs hP hD hS => ?_) (fun hzv1 q9 ce H locs hP hD hS hce hcv hcl => ?_)
  · have hF := oT hzv1 hF
    exact vx_ret (fin_i (u := (v1.2.1, (v1.2.2.1, v1.2.2.2))) hF hx hb hr hlocks hK hP hD hS (Nat.le_of_ble_eq_true rfl) (Nat.le_of_ble_eq_true rfl) dL_append_5)
  · have hF := oF hzv1 hF
    by_cases c2 : v1.1 = 4
    · have hF := oT c2 hF
      rw [c2] at hcl
      refine vx_catch (E := "java/lang/IllegalStateException") (name := "java/lang/IllegalStateException") hown [] ⟨0, 5, 6, 88⟩ [] (htab.trans rfl) (fun z hz => nomatch hz) (by decide) (by decide) (hts (.classLink RL 88 "java/lang/IllegalStateException") (List.mem_of_getElem? (i := 1) rfl)) (va_Nw.use rfl (hE.2.2.2.2.1 _ (List.mem_of_getElem? (i := 4) rfl))) hce hcv hcl ?_
      refine lv_astore_n (lv' := [(2, .ref q9), (0, .ref aX), (1, .int p2)]) hx hb dL_append_6 rfl hl (by decide) rfl (fun ls hl => ?_)
      refine lv_sipush (v := (-1001 : Int32)) hx hb dL_append_7 (by decide) ?_
      exact vx_ret (fin_i (u := ((-1001 : Int32), (v1.2.2.1, v1.2.2.2))) hF hx hb hr hlocks hK hP hD hS (Nat.le_of_ble_eq_true rfl) (Nat.le_of_ble_eq_true rfl) dL_append_10)
    have hF := oF c2 hF
    exact nomatch hF
abbrev RM_L_commands : Room := { frames := 7, cells := 1, slots := 6, locals := 184 }
abbrev MC_L_commands : Nat := 1
abbrev MS_L_commands : Nat := 6
abbrev wf_L_commands (K : Nat → ClassId) (aX : Nat) (aC : Nat) (aCr : Nat) (aR : Nat) (aH : Nat) (aHr : Nat) (aT : Nat) (aTc : Nat) (aTp : Nat) (aL : Nat) (aS : Nat) (xS : Int32) (tC : Nat → Int32) (v : Int32 × Int32 × Int32 × Int32 × Int32 × (Nat → Int32) × Int32 × Int32 × Int32 × Int32 × (Nat → Int32) × Int32 × Int32 × Int32 × Int32 × (Nat → Int32)) : va_W := [(aX, .inr (5, [.ref aC, .ref aR, .ref aH, .ref aT, .ref aL, .ref aS, .int xS, .int v.2.1, .int v.2.2.1, .int v.2.2.2.1, .int v.2.2.2.2.1])), (aC, .inr (0, [.ref aCr])), (aCr, .inl (K 0, 55, .inl v.2.2.2.2.2.1)), (aR, .inr (4, [.int v.2.2.2.2.2.2.1, .int v.2.2.2.2.2.2.2.1])), (aH, .inr (2, [.ref aHr, .int v.2.2.2.2.2.2.2.2.1, .int v.2.2.2.2.2.2.2.2.2.1])), (aHr, .inl (K 1, 495, .inl v.2.2.2.2.2.2.2.2.2.2.1)), (aT, .inr (1, [.ref aTc, .ref aTp, .int v.2.2.2.2.2.2.2.2.2.2.2.1, .int v.2.2.2.2.2.2.2.2.2.2.2.2.1, .int v.2.2.2.2.2.2.2.2.2.2.2.2.2.1, .int v.2.2.2.2.2.2.2.2.2.2.2.2.2.2.1])), (aTc, .inl (K 2, 60, .inl tC)), (aTp, .inl (K 3, 240, .inl v.2.2.2.2.2.2.2.2.2.2.2.2.2.2.2))]
set_option maxHeartbeats 4000000 in
set_option maxRecDepth 100000 in
theorem c_L_commands (l : Launch) (hfl : l.stackTraces = false) (D : va_G) (K : Nat → ClassId) (aX : Nat) (aC : Nat) (aCr : Nat) (aR : Nat) (aH : Nat) (aHr : Nat) (aT : Nat) (aTc : Nat) (aTp : Nat) (aL : Nat) (aS : Nat) (xS : Int32) (xF : Int32) (xR : Int32) (xD : Int32) (xC : Int32) (row : Nat → Int32) (rR : Int32) (rD : Int32) (kN : Int32) (kK : Int32) (kF : Nat → Int32) (tL : Int32) (tS : Int32) (tQ : Int32) (tF : Int32) (tC : Nat → Int32) (tP : Nat → Int32)  (v : Int32 × Int32 × Int32 × Int32 × Int32 × (Nat → Int32) × Int32 × Int32 × Int32 × Int32 × (Nat → Int32) × Int32 × Int32 × Int32 × Int32 × (Nat → Int32)) (hF : f_L_commands xF xR xD xC row rR rD kN kK kF tL tS tQ tF tC tP = some v) (sz : Nat) :
    (vx_Met l yL_commands wsL_commands RM_L_commands (PC D (TY K) [(aX, .inr (5, [.ref aC, .ref aR, .ref aH, .ref aT, .ref aL, .ref aS, .int xS, .int xF, .int xR, .int xD, .int xC])), (aC, .inr (0, [.ref aCr])), (aCr, .inl (K 0, 55, .inl row)), (aR, .inr (4, [.int rR, .int rD])), (aH, .inr (2, [.ref aHr, .int kN, .int kK])), (aHr, .inl (K 1, 495, .inl kF)), (aT, .inr (1, [.ref aTc, .ref aTp, .int tL, .int tS, .int tQ, .int tF])), (aTc, .inl (K 2, 60, .inl tC)), (aTp, .inl (K 3, 240, .inl tP))] [.ref aX] sz) (QI D (TY K) (wf_L_commands K aX aC aCr aR aH aHr aT aTc aTp aL aS xS tC) v (va_A [(aX, .inr (5, [.ref aC, .ref aR, .ref aH, .ref aT, .ref aL, .ref aS, .int xS, .int xF, .int xR, .int xD, .int xC])), (aC, .inr (0, [.ref aCr])), (aCr, .inl (K 0, 55, .inl row)), (aR, .inr (4, [.int rR, .int rD])), (aH, .inr (2, [.ref aHr, .int kN, .int kK])), (aHr, .inl (K 1, 495, .inl kF)), (aT, .inr (1, [.ref aTc, .ref aTp, .int tL, .int tS, .int tQ, .int tF])), (aTc, .inl (K 2, 60, .inl tC)), (aTp, .inl (K 3, 240, .inl tP))] sz)) XN MC_L_commands MS_L_commands (va_A [(aX, .inr (5, [.ref aC, .ref aR, .ref aH, .ref aT, .ref aL, .ref aS, .int xS, .int xF, .int xR, .int xD, .int xC])), (aC, .inr (0, [.ref aCr])), (aCr, .inl (K 0, 55, .inl row)), (aR, .inr (4, [.int rR, .int rD])), (aH, .inr (2, [.ref aHr, .int kN, .int kK])), (aHr, .inl (K 1, 495, .inl kF)), (aT, .inr (1, [.ref aTc, .ref aTp, .int tL, .int tS, .int tQ, .int tF])), (aTc, .inl (K 2, 60, .inl tC)), (aTp, .inl (K 3, 240, .inl tP))] sz)) := by
  refine proH (Qf := fun A => QI D (TY K) (wf_L_commands K aX aC aCr aR aH aHr aT aTc aTp aL aS xS tC) v A) (XCf := fun _ => XN) (cc := cL_commands) (maxL := 2) (ret := (some .int)) (by decide +kernel) rfl (Nat.le_of_ble_eq_true rfl) ?_
  intro p e s m args below meth c hx hb hr hts hown hlocks hml htab hK A hA hE hP hD hS ls hl
  have hown : s.vm.findClass RL = some m.cls := hown
  have hl : lv_has ls 2 [(0, .ref aX)] := hl
  rw [f_L_commands] at hF
  refine lv_aload_n hx hb dL_commands_0 rfl (lv_at hl 0 rfl) ?_
  obtain ⟨v1, hv1, hF⟩ := oB hF
  refine callX_i (wr := []) (wn := [(aX, .inr (5, [.ref aC, .ref aR, .ref aH, .ref aT, .ref aL, .ref aS, .int xS, .int v1.2.2.1, .int v1.2.2.2.1, .int v1.2.2.2.2.1, .int v1.2.2.2.2.2.1])), (aC, .inr (0, [.ref aCr])), (aCr, .inl (K 0, 55, .inl v1.2.2.2.2.2.2.1)), (aR, .inr (4, [.int v1.2.2.2.2.2.2.2.1, .int v1.2.2.2.2.2.2.2.2.1])), (aH, .inr (2, [.ref aHr, .int v1.2.2.2.2.2.2.2.2.2.1, .int v1.2.2.2.2.2.2.2.2.2.2.1])), (aHr, .inl (K 1, 495, .inl v1.2.2.2.2.2.2.2.2.2.2.2.1)), (aT, .inr (1, [.ref aTc, .ref aTp, .int v1.2.2.2.2.2.2.2.2.2.2.2.2.1, .int v1.2.2.2.2.2.2.2.2.2.2.2.2.2.1, .int v1.2.2.2.2.2.2.2.2.2.2.2.2.2.2.1, .int v1.2.2.2.2.2.2.2.2.2.2.2.2.2.2.2.1])), (aTc, .inl (K 2, 60, .inl tC)), (aTp, .inl (K 3, 240, .inl v1.2.2.2.2.2.2.2.2.2.2.2.2.2.2.2.2))]) (vx_runV (As := []) (rest := []) ⟨hx, hb, hml, hown, hts⟩ (c_X7_commands l hfl D K aX aC aCr aR aH aHr aT aTc aTp aL aS xS xF xR xD xC row rR rD kN kK kF tL tS tQ tF tC tP v1 hv1 s.heap.size) (cwV 0 hts gL_commands_X7_commands rfl rfl rfl (by decide +kernel) ⟨(Nat.le_of_ble_eq_true rfl), (Nat.le_of_ble_eq_true rfl)⟩) (prV hE hK hP hD hS hA [0, 1, 2, 3, 4, 5, 6, 7, 8] rfl rfl 5 0 rfl rfl rfl) rfl rfl hl.1 rfl (lv_room (Nat.le_of_ble_eq_true rfl)) dL_commands_1 ⟨(Nat.le_of_ble_eq_true rfl), (Nat.le_of_ble_eq_true rfl)⟩) hP hD hS hA [0, 1, 2, 3, 4, 5, 6, 7, 8] [] [0, 1, 2, 3, 4, 5, 6, 7, 8] rfl rfl rfl (by decide) rfl rfl (fun hzv1 H locs hP hD hS => ?_) (fun hzv1 q9 ce H locs hP hD hS hce hcv hcl => ?_)
  · have hF := oT hzv1 hF
    exact vx_ret (fin_i (u := (v1.2.1, (v1.2.2.1, v1.2.2.2.1, v1.2.2.2.2.1, v1.2.2.2.2.2.1, v1.2.2.2.2.2.2.1, v1.2.2.2.2.2.2.2.1, v1.2.2.2.2.2.2.2.2.1, v1.2.2.2.2.2.2.2.2.2.1, v1.2.2.2.2.2.2.2.2.2.2.1, v1.2.2.2.2.2.2.2.2.2.2.2.1, v1.2.2.2.2.2.2.2.2.2.2.2.2.1, v1.2.2.2.2.2.2.2.2.2.2.2.2.2.1, v1.2.2.2.2.2.2.2.2.2.2.2.2.2.2.1, v1.2.2.2.2.2.2.2.2.2.2.2.2.2.2.2.1, v1.2.2.2.2.2.2.2.2.2.2.2.2.2.2.2.2))) hF hx hb hr hlocks hK hP hD hS (Nat.le_of_ble_eq_true rfl) (Nat.le_of_ble_eq_true rfl) dL_commands_4)
  · have hF := oF hzv1 hF
    by_cases c2 : v1.1 = 2
    · have hF := oT c2 hF
      rw [c2] at hcl
      refine vx_catch (E := "java/lang/IllegalArgumentException") (name := "java/lang/IllegalArgumentException") hown [] ⟨0, 4, 5, 50⟩ [⟨0, 4, 10, 13⟩] (htab.trans rfl) (fun z hz => nomatch hz) (by decide) (by decide) (hts (.classLink RL 50 "java/lang/IllegalArgumentException") (List.mem_of_getElem? (i := 1) rfl)) (va_Nw.use rfl (hE.2.2.2.2.1 _ (List.mem_of_getElem? (i := 2) rfl))) hce hcv hcl ?_
      refine lv_astore_n (lv' := [(1, .ref q9), (0, .ref aX)]) hx hb dL_commands_5 rfl hl (by decide) rfl (fun ls hl => ?_)
      refine lv_sipush (v := (-1001 : Int32)) hx hb dL_commands_6 (by decide) ?_
      exact vx_ret (fin_i (u := ((-1001 : Int32), (v1.2.2.1, v1.2.2.2.1, v1.2.2.2.2.1, v1.2.2.2.2.2.1, v1.2.2.2.2.2.2.1, v1.2.2.2.2.2.2.2.1, v1.2.2.2.2.2.2.2.2.1, v1.2.2.2.2.2.2.2.2.2.1, v1.2.2.2.2.2.2.2.2.2.2.1, v1.2.2.2.2.2.2.2.2.2.2.2.1, v1.2.2.2.2.2.2.2.2.2.2.2.2.1, v1.2.2.2.2.2.2.2.2.2.2.2.2.2.1, v1.2.2.2.2.2.2.2.2.2.2.2.2.2.2.1, v1.2.2.2.2.2.2.2.2.2.2.2.2.2.2.2.1, v1.2.2.2.2.2.2.2.2.2.2.2.2.2.2.2.2))) hF hx hb hr hlocks hK hP hD hS (Nat.le_of_ble_eq_true rfl) (Nat.le_of_ble_eq_true rfl) dL_commands_9)
    have hF := oF c2 hF
    by_cases c3 : v1.1 = 6
    · have hF := oT c3 hF
      rw [c3] at hcl
      refine vx_catch (E := "java/lang/UnsupportedOperationException") (name := "java/lang/UnsupportedOperationException") hown [⟨0, 4, 5, 50⟩] ⟨0, 4, 10, 13⟩ [] (htab.trans rfl) (fun z hz => by rcases List.mem_singleton.mp hz with rfl; exact Or.inr ⟨by decide, "java/lang/IllegalArgumentException", (hts (.classLink RL 50 "java/lang/IllegalArgumentException") (List.mem_of_getElem? (i := 1) rfl)), hE.2.2.2.2.2.1 _ (List.mem_of_getElem? (i := 3) rfl)⟩) (by decide) (by decide) (hts (.classLink RL 13 "java/lang/UnsupportedOperationException") (List.mem_of_getElem? (i := 2) rfl)) (va_Nw.use rfl (hE.2.2.2.2.1 _ (List.mem_of_getElem? (i := 0) rfl))) hce hcv hcl ?_
      refine lv_astore_n (lv' := [(1, .ref q9), (0, .ref aX)]) hx hb dL_commands_10 rfl hl (by decide) rfl (fun ls hl => ?_)
      refine lv_sipush (v := (-1002 : Int32)) hx hb dL_commands_11 (by decide) ?_
      exact vx_ret (fin_i (u := ((-1002 : Int32), (v1.2.2.1, v1.2.2.2.1, v1.2.2.2.2.1, v1.2.2.2.2.2.1, v1.2.2.2.2.2.2.1, v1.2.2.2.2.2.2.2.1, v1.2.2.2.2.2.2.2.2.1, v1.2.2.2.2.2.2.2.2.2.1, v1.2.2.2.2.2.2.2.2.2.2.1, v1.2.2.2.2.2.2.2.2.2.2.2.1, v1.2.2.2.2.2.2.2.2.2.2.2.2.1, v1.2.2.2.2.2.2.2.2.2.2.2.2.2.1, v1.2.2.2.2.2.2.2.2.2.2.2.2.2.2.1, v1.2.2.2.2.2.2.2.2.2.2.2.2.2.2.2.1, v1.2.2.2.2.2.2.2.2.2.2.2.2.2.2.2.2))) hF hx hb hr hlocks hK hP hD hS (Nat.le_of_ble_eq_true rfl) (Nat.le_of_ble_eq_true rfl) dL_commands_14)
    have hF := oF c3 hF
    exact nomatch hF
abbrev RM_L_reason : Room := { frames := 7, cells := 1, slots := 6, locals := 119 }
abbrev MC_L_reason : Nat := 1
abbrev MS_L_reason : Nat := 6
abbrev wf_L_reason (K : Nat → ClassId) (aX : Nat) (aC : Nat) (aR : Nat) (aH : Nat) (aT : Nat) (aL : Nat) (aS : Nat) (xS : Int32) (xF : Int32) (xR : Int32) (xD : Int32) (xC : Int32) (v : Int32 × Unit) : va_W := [(aX, .inr (5, [.ref aC, .ref aR, .ref aH, .ref aT, .ref aL, .ref aS, .int xS, .int xF, .int xR, .int xD, .int xC]))]
set_option maxHeartbeats 4000000 in
set_option maxRecDepth 100000 in
theorem c_L_reason (l : Launch) (hfl : l.stackTraces = false) (D : va_G) (K : Nat → ClassId) (aX : Nat) (aC : Nat) (aR : Nat) (aH : Nat) (aT : Nat) (aL : Nat) (aS : Nat) (xS : Int32) (xF : Int32) (xR : Int32) (xD : Int32) (xC : Int32) (p2 : Int32) (v : Int32 × Unit) (hF : f_L_reason xR xD xC p2 = some v) (sz : Nat) :
    (vx_Met l yL_reason wsL_reason RM_L_reason (PC D (TY K) [(aX, .inr (5, [.ref aC, .ref aR, .ref aH, .ref aT, .ref aL, .ref aS, .int xS, .int xF, .int xR, .int xD, .int xC]))] [.ref aX, .int p2] sz) (QI D (TY K) (wf_L_reason K aX aC aR aH aT aL aS xS xF xR xD xC) v (va_A [(aX, .inr (5, [.ref aC, .ref aR, .ref aH, .ref aT, .ref aL, .ref aS, .int xS, .int xF, .int xR, .int xD, .int xC]))] sz)) XN MC_L_reason MS_L_reason (va_A [(aX, .inr (5, [.ref aC, .ref aR, .ref aH, .ref aT, .ref aL, .ref aS, .int xS, .int xF, .int xR, .int xD, .int xC]))] sz)) := by
  refine proH (Qf := fun A => QI D (TY K) (wf_L_reason K aX aC aR aH aT aL aS xS xF xR xD xC) v A) (XCf := fun _ => XN) (cc := cL_reason) (maxL := 3) (ret := (some .int)) (by decide +kernel) rfl (Nat.le_of_ble_eq_true rfl) ?_
  intro p e s m args below meth c hx hb hr hts hown hlocks hml htab hK A hA hE hP hD hS ls hl
  have hown : s.vm.findClass RL = some m.cls := hown
  have hl : lv_has ls 3 [(0, .ref aX), (1, .int p2)] := hl
  rw [f_L_reason] at hF
  refine lv_aload_n hx hb dL_reason_0 rfl (lv_at hl 0 rfl) ?_
  refine lv_iload_n hx hb dL_reason_1 rfl (lv_at hl 1 rfl) ?_
  obtain ⟨v1, hv1, hF⟩ := oB hF
  refine callX_i (wr := []) (wn := [(aX, .inr (5, [.ref aC, .ref aR, .ref aH, .ref aT, .ref aL, .ref aS, .int xS, .int xF, .int xR, .int xD, .int xC]))]) (vx_runV (As := [.int p2]) (rest := []) ⟨hx, hb, hml, hown, hts⟩ (c_X7_reason l hfl D K aX aC aR aH aT aL aS xS xF xR xD xC p2 v1 hv1 s.heap.size) (cwV 1 hts gL_reason_X7_reason rfl rfl rfl (by decide +kernel) ⟨(Nat.le_of_ble_eq_true rfl), (Nat.le_of_ble_eq_true rfl)⟩) (prV hE hK hP hD hS hA [0] rfl rfl 5 0 rfl rfl rfl) rfl rfl hl.1 rfl (lv_room (Nat.le_of_ble_eq_true rfl)) dL_reason_2 ⟨(Nat.le_of_ble_eq_true rfl), (Nat.le_of_ble_eq_true rfl)⟩) hP hD hS hA [0] [] [0] rfl rfl rfl (by decide) rfl rfl (fun hzv1 H locs hP hD hS => ?_) (fun hzv1 q9 ce H locs hP hD hS hce hcv hcl => ?_)
  · have hF := oT hzv1 hF
    exact vx_ret (fin_i (u := (v1.2.1, ())) hF hx hb hr hlocks hK hP hD hS (Nat.le_of_ble_eq_true rfl) (Nat.le_of_ble_eq_true rfl) dL_reason_5)
  · have hF := oF hzv1 hF
    by_cases c2 : v1.1 = 2
    · have hF := oT c2 hF
      rw [c2] at hcl
      refine vx_catch (E := "java/lang/IllegalArgumentException") (name := "java/lang/IllegalArgumentException") hown [] ⟨0, 5, 6, 50⟩ [⟨0, 5, 11, 61⟩] (htab.trans rfl) (fun z hz => nomatch hz) (by decide) (by decide) (hts (.classLink RL 50 "java/lang/IllegalArgumentException") (List.mem_of_getElem? (i := 1) rfl)) (va_Nw.use rfl (hE.2.2.2.2.1 _ (List.mem_of_getElem? (i := 2) rfl))) hce hcv hcl ?_
      refine lv_astore_n (lv' := [(2, .ref q9), (0, .ref aX), (1, .int p2)]) hx hb dL_reason_6 rfl hl (by decide) rfl (fun ls hl => ?_)
      refine lv_sipush (v := (-1001 : Int32)) hx hb dL_reason_7 (by decide) ?_
      exact vx_ret (fin_i (u := ((-1001 : Int32), ())) hF hx hb hr hlocks hK hP hD hS (Nat.le_of_ble_eq_true rfl) (Nat.le_of_ble_eq_true rfl) dL_reason_10)
    have hF := oF c2 hF
    by_cases c3 : v1.1 = 3
    · have hF := oT c3 hF
      rw [c3] at hcl
      refine vx_catch (E := "java/util/NoSuchElementException") (name := "java/util/NoSuchElementException") hown [⟨0, 5, 6, 50⟩] ⟨0, 5, 11, 61⟩ [] (htab.trans rfl) (fun z hz => by rcases List.mem_singleton.mp hz with rfl; exact Or.inr ⟨by decide, "java/lang/IllegalArgumentException", (hts (.classLink RL 50 "java/lang/IllegalArgumentException") (List.mem_of_getElem? (i := 1) rfl)), hE.2.2.2.2.2.1 _ (List.mem_of_getElem? (i := 2) rfl)⟩) (by decide) (by decide) (hts (.classLink RL 61 "java/util/NoSuchElementException") (List.mem_of_getElem? (i := 2) rfl)) (va_Nw.use rfl (hE.2.2.2.2.1 _ (List.mem_of_getElem? (i := 3) rfl))) hce hcv hcl ?_
      refine lv_astore_n (lv' := [(2, .ref q9), (0, .ref aX), (1, .int p2)]) hx hb dL_reason_11 rfl hl (by decide) rfl (fun ls hl => ?_)
      refine lv_sipush (v := (-1002 : Int32)) hx hb dL_reason_12 (by decide) ?_
      exact vx_ret (fin_i (u := ((-1002 : Int32), ())) hF hx hb hr hlocks hK hP hD hS (Nat.le_of_ble_eq_true rfl) (Nat.le_of_ble_eq_true rfl) dL_reason_15)
    have hF := oF c3 hF
    exact nomatch hF
abbrev RM_L_line : Room := { frames := 8, cells := 1, slots := 6, locals := 140 }
abbrev MC_L_line : Nat := 1
abbrev MS_L_line : Nat := 6
abbrev wf_L_line (K : Nat → ClassId) (aX : Nat) (aC : Nat) (aCr : Nat) (aR : Nat) (aH : Nat) (aT : Nat) (aL : Nat) (aLc : Nat) (aS : Nat) (xS : Int32) (xF : Int32) (xR : Int32) (xD : Int32) (xC : Int32) (row : Nat → Int32) (v : Int32 × Int32 × (Nat → Int32)) : va_W := [(aX, .inr (5, [.ref aC, .ref aR, .ref aH, .ref aT, .ref aL, .ref aS, .int xS, .int xF, .int xR, .int xD, .int xC])), (aC, .inr (0, [.ref aCr])), (aCr, .inl (K 0, 55, .inl row)), (aL, .inr (3, [.ref aLc, .int v.2.1])), (aLc, .inl (K 4, 32, .inl v.2.2))]
set_option maxHeartbeats 4000000 in
set_option maxRecDepth 100000 in
theorem c_L_line (l : Launch) (hfl : l.stackTraces = false) (D : va_G) (K : Nat → ClassId) (aX : Nat) (aC : Nat) (aCr : Nat) (aR : Nat) (aH : Nat) (aT : Nat) (aL : Nat) (aLc : Nat) (aS : Nat) (xS : Int32) (xF : Int32) (xR : Int32) (xD : Int32) (xC : Int32) (row : Nat → Int32) (lL : Int32) (lC : Nat → Int32) (p2 : Int32) (v : Int32 × Int32 × (Nat → Int32)) (hF : f_L_line row lL lC p2 = some v) (sz : Nat) :
    (vx_Met l yL_line wsL_line RM_L_line (PC D (TY K) [(aX, .inr (5, [.ref aC, .ref aR, .ref aH, .ref aT, .ref aL, .ref aS, .int xS, .int xF, .int xR, .int xD, .int xC])), (aC, .inr (0, [.ref aCr])), (aCr, .inl (K 0, 55, .inl row)), (aL, .inr (3, [.ref aLc, .int lL])), (aLc, .inl (K 4, 32, .inl lC))] [.ref aX, .int p2] sz) (QI D (TY K) (wf_L_line K aX aC aCr aR aH aT aL aLc aS xS xF xR xD xC row) v (va_A [(aX, .inr (5, [.ref aC, .ref aR, .ref aH, .ref aT, .ref aL, .ref aS, .int xS, .int xF, .int xR, .int xD, .int xC])), (aC, .inr (0, [.ref aCr])), (aCr, .inl (K 0, 55, .inl row)), (aL, .inr (3, [.ref aLc, .int lL])), (aLc, .inl (K 4, 32, .inl lC))] sz)) XN MC_L_line MS_L_line (va_A [(aX, .inr (5, [.ref aC, .ref aR, .ref aH, .ref aT, .ref aL, .ref aS, .int xS, .int xF, .int xR, .int xD, .int xC])), (aC, .inr (0, [.ref aCr])), (aCr, .inl (K 0, 55, .inl row)), (aL, .inr (3, [.ref aLc, .int lL])), (aLc, .inl (K 4, 32, .inl lC))] sz)) := by
  refine proH (Qf := fun A => QI D (TY K) (wf_L_line K aX aC aCr aR aH aT aL aLc aS xS xF xR xD xC row) v A) (XCf := fun _ => XN) (cc := cL_line) (maxL := 3) (ret := (some .int)) (by decide +kernel) rfl (Nat.le_of_ble_eq_true rfl) ?_
  intro p e s m args below meth c hx hb hr hts hown hlocks hml htab hK A hA hE hP hD hS ls hl
  have hown : s.vm.findClass RL = some m.cls := hown
  have hl : lv_has ls 3 [(0, .ref aX), (1, .int p2)] := hl
  rw [f_L_line] at hF
  refine lv_aload_n hx hb dL_line_0 rfl (lv_at hl 0 rfl) ?_
  refine lv_iload_n hx hb dL_line_1 rfl (lv_at hl 1 rfl) ?_
  obtain ⟨v1, hv1, hF⟩ := oB hF
  refine callX_i (wr := []) (wn := [(aX, .inr (5, [.ref aC, .ref aR, .ref aH, .ref aT, .ref aL, .ref aS, .int xS, .int xF, .int xR, .int xD, .int xC])), (aC, .inr (0, [.ref aCr])), (aCr, .inl (K 0, 55, .inl row)), (aL, .inr (3, [.ref aLc, .int v1.2.2.1])), (aLc, .inl (K 4, 32, .inl v1.2.2.2))]) (vx_runV (As := [.int p2]) (rest := []) ⟨hx, hb, hml, hown, hts⟩ (c_X7_line l hfl D K aX aC aCr aR aH aT aL aLc aS xS xF xR xD xC row lL lC p2 v1 hv1 s.heap.size) (cwV 1 hts gL_line_X7_line rfl rfl rfl (by decide +kernel) ⟨(Nat.le_of_ble_eq_true rfl), (Nat.le_of_ble_eq_true rfl)⟩) (prV hE hK hP hD hS hA [0, 1, 2, 3, 4] rfl rfl 5 0 rfl rfl rfl) rfl rfl hl.1 rfl (lv_room (Nat.le_of_ble_eq_true rfl)) dL_line_2 ⟨(Nat.le_of_ble_eq_true rfl), (Nat.le_of_ble_eq_true rfl)⟩) hP hD hS hA [0, 1, 2, 3, 4] [] [0, 1, 2, 3, 4] rfl rfl rfl (by decide) rfl rfl (fun hzv1 H locs hP hD hS => ?_) (fun hzv1 q9 ce H locs hP hD hS hce hcv hcl => ?_)
  · have hF := oT hzv1 hF
    exact vx_ret (fin_i (u := (v1.2.1, (v1.2.2.1, v1.2.2.2))) hF hx hb hr hlocks hK hP hD hS (Nat.le_of_ble_eq_true rfl) (Nat.le_of_ble_eq_true rfl) dL_line_5)
  · have hF := oF hzv1 hF
    by_cases c2 : v1.1 = 1
    · have hF := oT c2 hF
      rw [c2] at hcl
      refine vx_catch (E := "java/lang/IndexOutOfBoundsException") (name := "java/lang/IndexOutOfBoundsException") hown [] ⟨0, 5, 6, 48⟩ [] (htab.trans rfl) (fun z hz => nomatch hz) (by decide) (by decide) (hts (.classLink RL 48 "java/lang/IndexOutOfBoundsException") (List.mem_of_getElem? (i := 1) rfl)) (va_Nw.use rfl (hE.2.2.2.2.1 _ (List.mem_of_getElem? (i := 1) rfl))) hce hcv hcl ?_
      refine lv_astore_n (lv' := [(2, .ref q9), (0, .ref aX), (1, .int p2)]) hx hb dL_line_6 rfl hl (by decide) rfl (fun ls hl => ?_)
      refine lv_sipush (v := (-1001 : Int32)) hx hb dL_line_7 (by decide) ?_
      exact vx_ret (fin_i (u := ((-1001 : Int32), (v1.2.2.1, v1.2.2.2))) hF hx hb hr hlocks hK hP hD hS (Nat.le_of_ble_eq_true rfl) (Nat.le_of_ble_eq_true rfl) dL_line_10)
    have hF := oF c2 hF
    exact nomatch hF
abbrev RM_L_character : Room := { frames := 7, cells := 1, slots := 6, locals := 119 }
abbrev MC_L_character : Nat := 1
abbrev MS_L_character : Nat := 6
abbrev wf_L_character (K : Nat → ClassId) (aX : Nat) (aC : Nat) (aR : Nat) (aH : Nat) (aT : Nat) (aL : Nat) (aLc : Nat) (aS : Nat) (xS : Int32) (xF : Int32) (xR : Int32) (xD : Int32) (xC : Int32) (lL : Int32) (lC : Nat → Int32) (v : Int32 × Unit) : va_W := [(aX, .inr (5, [.ref aC, .ref aR, .ref aH, .ref aT, .ref aL, .ref aS, .int xS, .int xF, .int xR, .int xD, .int xC])), (aL, .inr (3, [.ref aLc, .int lL])), (aLc, .inl (K 4, 32, .inl lC))]
set_option maxHeartbeats 4000000 in
set_option maxRecDepth 100000 in
theorem c_L_character (l : Launch) (hfl : l.stackTraces = false) (D : va_G) (K : Nat → ClassId) (aX : Nat) (aC : Nat) (aR : Nat) (aH : Nat) (aT : Nat) (aL : Nat) (aLc : Nat) (aS : Nat) (xS : Int32) (xF : Int32) (xR : Int32) (xD : Int32) (xC : Int32) (lL : Int32) (lC : Nat → Int32) (p2 : Int32) (v : Int32 × Unit) (hF : f_L_character lL lC p2 = some v) (sz : Nat) :
    (vx_Met l yL_character wsL_character RM_L_character (PC D (TY K) [(aX, .inr (5, [.ref aC, .ref aR, .ref aH, .ref aT, .ref aL, .ref aS, .int xS, .int xF, .int xR, .int xD, .int xC])), (aL, .inr (3, [.ref aLc, .int lL])), (aLc, .inl (K 4, 32, .inl lC))] [.ref aX, .int p2] sz) (QI D (TY K) (wf_L_character K aX aC aR aH aT aL aLc aS xS xF xR xD xC lL lC) v (va_A [(aX, .inr (5, [.ref aC, .ref aR, .ref aH, .ref aT, .ref aL, .ref aS, .int xS, .int xF, .int xR, .int xD, .int xC])), (aL, .inr (3, [.ref aLc, .int lL])), (aLc, .inl (K 4, 32, .inl lC))] sz)) XN MC_L_character MS_L_character (va_A [(aX, .inr (5, [.ref aC, .ref aR, .ref aH, .ref aT, .ref aL, .ref aS, .int xS, .int xF, .int xR, .int xD, .int xC])), (aL, .inr (3, [.ref aLc, .int lL])), (aLc, .inl (K 4, 32, .inl lC))] sz)) := by
  refine proH (Qf := fun A => QI D (TY K) (wf_L_character K aX aC aR aH aT aL aLc aS xS xF xR xD xC lL lC) v A) (XCf := fun _ => XN) (cc := cL_character) (maxL := 3) (ret := (some .int)) (by decide +kernel) rfl (Nat.le_of_ble_eq_true rfl) ?_
  intro p e s m args below meth c hx hb hr hts hown hlocks hml htab hK A hA hE hP hD hS ls hl
  have hown : s.vm.findClass RL = some m.cls := hown
  have hl : lv_has ls 3 [(0, .ref aX), (1, .int p2)] := hl
  rw [f_L_character] at hF
  refine lv_aload_n hx hb dL_character_0 rfl (lv_at hl 0 rfl) ?_
  refine lv_iload_n hx hb dL_character_1 rfl (lv_at hl 1 rfl) ?_
  obtain ⟨v1, hv1, hF⟩ := oB hF
  refine callX_i (wr := []) (wn := [(aX, .inr (5, [.ref aC, .ref aR, .ref aH, .ref aT, .ref aL, .ref aS, .int xS, .int xF, .int xR, .int xD, .int xC])), (aL, .inr (3, [.ref aLc, .int lL])), (aLc, .inl (K 4, 32, .inl lC))]) (vx_runV (As := [.int p2]) (rest := []) ⟨hx, hb, hml, hown, hts⟩ (c_X7_character l hfl D K aX aC aR aH aT aL aLc aS xS xF xR xD xC lL lC p2 v1 hv1 s.heap.size) (cwV 1 hts gL_character_X7_character rfl rfl rfl (by decide +kernel) ⟨(Nat.le_of_ble_eq_true rfl), (Nat.le_of_ble_eq_true rfl)⟩) (prV hE hK hP hD hS hA [0, 1, 2] rfl rfl 5 0 rfl rfl rfl) rfl rfl hl.1 rfl (lv_room (Nat.le_of_ble_eq_true rfl)) dL_character_2 ⟨(Nat.le_of_ble_eq_true rfl), (Nat.le_of_ble_eq_true rfl)⟩) hP hD hS hA [0, 1, 2] [] [0, 1, 2] rfl rfl rfl (by decide) rfl rfl (fun hzv1 H locs hP hD hS => ?_) (fun hzv1 q9 ce H locs hP hD hS hce hcv hcl => ?_)
  · have hF := oT hzv1 hF
    exact vx_ret (fin_i (u := (v1.2.1, ())) hF hx hb hr hlocks hK hP hD hS (Nat.le_of_ble_eq_true rfl) (Nat.le_of_ble_eq_true rfl) dL_character_5)
  · have hF := oF hzv1 hF
    by_cases c2 : v1.1 = 1
    · have hF := oT c2 hF
      rw [c2] at hcl
      refine vx_catch (E := "java/lang/IndexOutOfBoundsException") (name := "java/lang/IndexOutOfBoundsException") hown [] ⟨0, 5, 6, 48⟩ [] (htab.trans rfl) (fun z hz => nomatch hz) (by decide) (by decide) (hts (.classLink RL 48 "java/lang/IndexOutOfBoundsException") (List.mem_of_getElem? (i := 1) rfl)) (va_Nw.use rfl (hE.2.2.2.2.1 _ (List.mem_of_getElem? (i := 1) rfl))) hce hcv hcl ?_
      refine lv_astore_n (lv' := [(2, .ref q9), (0, .ref aX), (1, .int p2)]) hx hb dL_character_6 rfl hl (by decide) rfl (fun ls hl => ?_)
      refine lv_sipush (v := (-1001 : Int32)) hx hb dL_character_7 (by decide) ?_
      exact vx_ret (fin_i (u := ((-1001 : Int32), ())) hF hx hb hr hlocks hK hP hD hS (Nat.le_of_ble_eq_true rfl) (Nat.le_of_ble_eq_true rfl) dL_character_10)
    have hF := oF c2 hF
    exact nomatch hF
abbrev RM_L_meanCoins : Room := { frames := 7, cells := 1, slots := 6, locals := 119 }
abbrev MC_L_meanCoins : Nat := 1
abbrev MS_L_meanCoins : Nat := 6
abbrev wf_L_meanCoins (K : Nat → ClassId) (aX : Nat) (aC : Nat) (aCr : Nat) (aR : Nat) (aH : Nat) (aT : Nat) (aL : Nat) (aS : Nat) (xS : Int32) (xF : Int32) (xR : Int32) (xD : Int32) (xC : Int32) (row : Nat → Int32) (v : UInt64 × Unit) : va_W := [(aX, .inr (5, [.ref aC, .ref aR, .ref aH, .ref aT, .ref aL, .ref aS, .int xS, .int xF, .int xR, .int xD, .int xC])), (aC, .inr (0, [.ref aCr])), (aCr, .inl (K 0, 55, .inl row))]
set_option maxHeartbeats 4000000 in
set_option maxRecDepth 100000 in
theorem c_L_meanCoins (l : Launch) (hfl : l.stackTraces = false) (D : va_G) (K : Nat → ClassId) (aX : Nat) (aC : Nat) (aCr : Nat) (aR : Nat) (aH : Nat) (aT : Nat) (aL : Nat) (aS : Nat) (xS : Int32) (xF : Int32) (xR : Int32) (xD : Int32) (xC : Int32) (row : Nat → Int32)  (v : UInt64 × Unit) (hF : f_L_meanCoins row = some v) (sz : Nat) :
    (vx_Met l yL_meanCoins wsL_meanCoins RM_L_meanCoins (PC D (TY K) [(aX, .inr (5, [.ref aC, .ref aR, .ref aH, .ref aT, .ref aL, .ref aS, .int xS, .int xF, .int xR, .int xD, .int xC])), (aC, .inr (0, [.ref aCr])), (aCr, .inl (K 0, 55, .inl row))] [.ref aX] sz) (QD D (TY K) (wf_L_meanCoins K aX aC aCr aR aH aT aL aS xS xF xR xD xC row) v (va_A [(aX, .inr (5, [.ref aC, .ref aR, .ref aH, .ref aT, .ref aL, .ref aS, .int xS, .int xF, .int xR, .int xD, .int xC])), (aC, .inr (0, [.ref aCr])), (aCr, .inl (K 0, 55, .inl row))] sz)) XN MC_L_meanCoins MS_L_meanCoins (va_A [(aX, .inr (5, [.ref aC, .ref aR, .ref aH, .ref aT, .ref aL, .ref aS, .int xS, .int xF, .int xR, .int xD, .int xC])), (aC, .inr (0, [.ref aCr])), (aCr, .inl (K 0, 55, .inl row))] sz)) := by
  refine proH (Qf := fun A => QD D (TY K) (wf_L_meanCoins K aX aC aCr aR aH aT aL aS xS xF xR xD xC row) v A) (XCf := fun _ => XN) (cc := cL_meanCoins) (maxL := 2) (ret := (some .double)) (by decide +kernel) rfl (Nat.le_of_ble_eq_true rfl) ?_
  intro p e s m args below meth c hx hb hr hts hown hlocks hml htab hK A hA hE hP hD hS ls hl
  have hown : s.vm.findClass RL = some m.cls := hown
  have hl : lv_has ls 2 [(0, .ref aX)] := hl
  rw [f_L_meanCoins] at hF
  refine lv_aload_n hx hb dL_meanCoins_0 rfl (lv_at hl 0 rfl) ?_
  obtain ⟨v1, hv1, hF⟩ := oB hF
  refine callX_d (wr := []) (wn := [(aX, .inr (5, [.ref aC, .ref aR, .ref aH, .ref aT, .ref aL, .ref aS, .int xS, .int xF, .int xR, .int xD, .int xC])), (aC, .inr (0, [.ref aCr])), (aCr, .inl (K 0, 55, .inl row))]) (vx_runV (As := []) (rest := []) ⟨hx, hb, hml, hown, hts⟩ (c_X7_meanCoins l hfl D K aX aC aCr aR aH aT aL aS xS xF xR xD xC row v1 hv1 s.heap.size) (cwV 0 hts gL_meanCoins_X7_meanCoins rfl rfl rfl (by decide +kernel) ⟨(Nat.le_of_ble_eq_true rfl), (Nat.le_of_ble_eq_true rfl)⟩) (prV hE hK hP hD hS hA [0, 1, 2] rfl rfl 5 0 rfl rfl rfl) rfl rfl hl.1 rfl (lv_room (Nat.le_of_ble_eq_true rfl)) dL_meanCoins_1 ⟨(Nat.le_of_ble_eq_true rfl), (Nat.le_of_ble_eq_true rfl)⟩) hP hD hS hA [0, 1, 2] [] [0, 1, 2] rfl rfl rfl (by decide) rfl rfl (fun hzv1 H locs hP hD hS => ?_) (fun hzv1 q9 ce H locs hP hD hS hce hcv hcl => ?_)
  · have hF := oT hzv1 hF
    exact vx_ret (fin_d (u := (v1.2.1, ())) hF hx hb hr hlocks hK hP hD hS (Nat.le_of_ble_eq_true rfl) (Nat.le_of_ble_eq_true rfl) dL_meanCoins_4)
  · have hF := oF hzv1 hF
    by_cases c2 : v1.1 = 5
    · have hF := oT c2 hF
      rw [c2] at hcl
      refine vx_catch (E := "java/lang/ArithmeticException") (name := "java/lang/ArithmeticException") hown [] ⟨0, 4, 5, 107⟩ [] (htab.trans rfl) (fun z hz => nomatch hz) (by decide) (by decide) (hts (.classLink RL 107 "java/lang/ArithmeticException") (List.mem_of_getElem? (i := 1) rfl)) (va_Nw.use rfl (hE.2.2.2.2.1 _ (List.mem_of_getElem? (i := 5) rfl))) hce hcv hcl ?_
      refine lv_astore_n (lv' := [(1, .ref q9), (0, .ref aX)]) hx hb dL_meanCoins_5 rfl hl (by decide) rfl (fun ls hl => ?_)
      refine lv_ldc2d (v := (13875388141788987392 : UInt64)) hx hb hown (hts (.constantDouble RL 109 (13875388141788987392)) (List.mem_of_getElem? (i := 2) rfl)) dL_meanCoins_6 ?_
      exact vx_ret (fin_d (u := ((13875388141788987392 : UInt64), ())) hF hx hb hr hlocks hK hP hD hS (Nat.le_of_ble_eq_true rfl) (Nat.le_of_ble_eq_true rfl) dL_meanCoins_9)
    have hF := oF c2 hF
    exact nomatch hF
abbrev RM_L_tappedShare : Room := { frames := 7, cells := 1, slots := 6, locals := 119 }
abbrev MC_L_tappedShare : Nat := 1
abbrev MS_L_tappedShare : Nat := 6
abbrev wf_L_tappedShare (K : Nat → ClassId) (aX : Nat) (aC : Nat) (aCr : Nat) (aR : Nat) (aH : Nat) (aT : Nat) (aL : Nat) (aS : Nat) (xS : Int32) (xF : Int32) (xR : Int32) (xD : Int32) (xC : Int32) (row : Nat → Int32) (v : UInt32 × Unit) : va_W := [(aX, .inr (5, [.ref aC, .ref aR, .ref aH, .ref aT, .ref aL, .ref aS, .int xS, .int xF, .int xR, .int xD, .int xC])), (aC, .inr (0, [.ref aCr])), (aCr, .inl (K 0, 55, .inl row))]
set_option maxHeartbeats 4000000 in
set_option maxRecDepth 100000 in
theorem c_L_tappedShare (l : Launch) (hfl : l.stackTraces = false) (D : va_G) (K : Nat → ClassId) (aX : Nat) (aC : Nat) (aCr : Nat) (aR : Nat) (aH : Nat) (aT : Nat) (aL : Nat) (aS : Nat) (xS : Int32) (xF : Int32) (xR : Int32) (xD : Int32) (xC : Int32) (row : Nat → Int32)  (v : UInt32 × Unit) (hF : f_L_tappedShare row = some v) (sz : Nat) :
    (vx_Met l yL_tappedShare wsL_tappedShare RM_L_tappedShare (PC D (TY K) [(aX, .inr (5, [.ref aC, .ref aR, .ref aH, .ref aT, .ref aL, .ref aS, .int xS, .int xF, .int xR, .int xD, .int xC])), (aC, .inr (0, [.ref aCr])), (aCr, .inl (K 0, 55, .inl row))] [.ref aX] sz) (QF D (TY K) (wf_L_tappedShare K aX aC aCr aR aH aT aL aS xS xF xR xD xC row) v (va_A [(aX, .inr (5, [.ref aC, .ref aR, .ref aH, .ref aT, .ref aL, .ref aS, .int xS, .int xF, .int xR, .int xD, .int xC])), (aC, .inr (0, [.ref aCr])), (aCr, .inl (K 0, 55, .inl row))] sz)) XN MC_L_tappedShare MS_L_tappedShare (va_A [(aX, .inr (5, [.ref aC, .ref aR, .ref aH, .ref aT, .ref aL, .ref aS, .int xS, .int xF, .int xR, .int xD, .int xC])), (aC, .inr (0, [.ref aCr])), (aCr, .inl (K 0, 55, .inl row))] sz)) := by
  refine proH (Qf := fun A => QF D (TY K) (wf_L_tappedShare K aX aC aCr aR aH aT aL aS xS xF xR xD xC row) v A) (XCf := fun _ => XN) (cc := cL_tappedShare) (maxL := 2) (ret := (some .float)) (by decide +kernel) rfl (Nat.le_of_ble_eq_true rfl) ?_
  intro p e s m args below meth c hx hb hr hts hown hlocks hml htab hK A hA hE hP hD hS ls hl
  have hown : s.vm.findClass RL = some m.cls := hown
  have hl : lv_has ls 2 [(0, .ref aX)] := hl
  rw [f_L_tappedShare] at hF
  refine lv_aload_n hx hb dL_tappedShare_0 rfl (lv_at hl 0 rfl) ?_
  obtain ⟨v1, hv1, hF⟩ := oB hF
  refine callX_f (wr := []) (wn := [(aX, .inr (5, [.ref aC, .ref aR, .ref aH, .ref aT, .ref aL, .ref aS, .int xS, .int xF, .int xR, .int xD, .int xC])), (aC, .inr (0, [.ref aCr])), (aCr, .inl (K 0, 55, .inl row))]) (vx_runV (As := []) (rest := []) ⟨hx, hb, hml, hown, hts⟩ (c_X7_tappedShare l hfl D K aX aC aCr aR aH aT aL aS xS xF xR xD xC row v1 hv1 s.heap.size) (cwV 0 hts gL_tappedShare_X7_tappedShare rfl rfl rfl (by decide +kernel) ⟨(Nat.le_of_ble_eq_true rfl), (Nat.le_of_ble_eq_true rfl)⟩) (prV hE hK hP hD hS hA [0, 1, 2] rfl rfl 5 0 rfl rfl rfl) rfl rfl hl.1 rfl (lv_room (Nat.le_of_ble_eq_true rfl)) dL_tappedShare_1 ⟨(Nat.le_of_ble_eq_true rfl), (Nat.le_of_ble_eq_true rfl)⟩) hP hD hS hA [0, 1, 2] [] [0, 1, 2] rfl rfl rfl (by decide) rfl rfl (fun hzv1 H locs hP hD hS => ?_) (fun hzv1 q9 ce H locs hP hD hS hce hcv hcl => ?_)
  · have hF := oT hzv1 hF
    exact vx_ret (fin_f (u := (v1.2.1, ())) hF hx hb hr hlocks hK hP hD hS (Nat.le_of_ble_eq_true rfl) (Nat.le_of_ble_eq_true rfl) dL_tappedShare_4)
  · have hF := oF hzv1 hF
    by_cases c2 : v1.1 = 5
    · have hF := oT c2 hF
      rw [c2] at hcl
      refine vx_catch (E := "java/lang/ArithmeticException") (name := "java/lang/ArithmeticException") hown [] ⟨0, 4, 5, 107⟩ [] (htab.trans rfl) (fun z hz => nomatch hz) (by decide) (by decide) (hts (.classLink RL 107 "java/lang/ArithmeticException") (List.mem_of_getElem? (i := 1) rfl)) (va_Nw.use rfl (hE.2.2.2.2.1 _ (List.mem_of_getElem? (i := 5) rfl))) hce hcv hcl ?_
      refine lv_astore_n (lv' := [(1, .ref q9), (0, .ref aX)]) hx hb dL_tappedShare_5 rfl hl (by decide) rfl (fun ls hl => ?_)
      refine lv_ldcf (v := (3296346112 : UInt32)) hx hb hown (hts (.constantFloat RL 115 (3296346112)) (List.mem_of_getElem? (i := 2) rfl)) dL_tappedShare_6 ?_
      exact vx_ret (fin_f (u := ((3296346112 : UInt32), ())) hF hx hb hr hlocks hK hP hD hS (Nat.le_of_ble_eq_true rfl) (Nat.le_of_ble_eq_true rfl) dL_tappedShare_8)
    have hF := oF c2 hF
    exact nomatch hF
abbrev RM_L_account : Room := { frames := 7, cells := 1, slots := 6, locals := 119 }
abbrev MC_L_account : Nat := 1
abbrev MS_L_account : Nat := 6
abbrev wf_L_account (K : Nat → ClassId) (aX : Nat) (aC : Nat) (aCr : Nat) (aR : Nat) (aH : Nat) (aHr : Nat) (aT : Nat) (aTc : Nat) (aTp : Nat) (aL : Nat) (aS : Nat) (xS : Int32) (xF : Int32) (xR : Int32) (xD : Int32) (xC : Int32) (row : Nat → Int32) (kN : Int32) (kK : Int32) (tL : Int32) (tS : Int32) (tQ : Int32) (tF : Int32) (v : Int32 × Unit) : va_W := [(aX, .inr (5, [.ref aC, .ref aR, .ref aH, .ref aT, .ref aL, .ref aS, .int xS, .int xF, .int xR, .int xD, .int xC])), (aC, .inr (0, [.ref aCr])), (aCr, .inl (K 0, 55, .inl row)), (aH, .inr (2, [.ref aHr, .int kN, .int kK])), (aT, .inr (1, [.ref aTc, .ref aTp, .int tL, .int tS, .int tQ, .int tF]))]
set_option maxHeartbeats 4000000 in
set_option maxRecDepth 100000 in
theorem c_L_account (l : Launch) (hfl : l.stackTraces = false) (D : va_G) (K : Nat → ClassId) (aX : Nat) (aC : Nat) (aCr : Nat) (aR : Nat) (aH : Nat) (aHr : Nat) (aT : Nat) (aTc : Nat) (aTp : Nat) (aL : Nat) (aS : Nat) (xS : Int32) (xF : Int32) (xR : Int32) (xD : Int32) (xC : Int32) (row : Nat → Int32) (kN : Int32) (kK : Int32) (tL : Int32) (tS : Int32) (tQ : Int32) (tF : Int32) (p2 : Int32) (v : Int32 × Unit) (hF : f_L_account row kK tL p2 = some v) (sz : Nat) :
    (vx_Met l yL_account wsL_account RM_L_account (PC D (TY K) [(aX, .inr (5, [.ref aC, .ref aR, .ref aH, .ref aT, .ref aL, .ref aS, .int xS, .int xF, .int xR, .int xD, .int xC])), (aC, .inr (0, [.ref aCr])), (aCr, .inl (K 0, 55, .inl row)), (aH, .inr (2, [.ref aHr, .int kN, .int kK])), (aT, .inr (1, [.ref aTc, .ref aTp, .int tL, .int tS, .int tQ, .int tF]))] [.ref aX, .int p2] sz) (QI D (TY K) (wf_L_account K aX aC aCr aR aH aHr aT aTc aTp aL aS xS xF xR xD xC row kN kK tL tS tQ tF) v (va_A [(aX, .inr (5, [.ref aC, .ref aR, .ref aH, .ref aT, .ref aL, .ref aS, .int xS, .int xF, .int xR, .int xD, .int xC])), (aC, .inr (0, [.ref aCr])), (aCr, .inl (K 0, 55, .inl row)), (aH, .inr (2, [.ref aHr, .int kN, .int kK])), (aT, .inr (1, [.ref aTc, .ref aTp, .int tL, .int tS, .int tQ, .int tF]))] sz)) XN MC_L_account MS_L_account (va_A [(aX, .inr (5, [.ref aC, .ref aR, .ref aH, .ref aT, .ref aL, .ref aS, .int xS, .int xF, .int xR, .int xD, .int xC])), (aC, .inr (0, [.ref aCr])), (aCr, .inl (K 0, 55, .inl row)), (aH, .inr (2, [.ref aHr, .int kN, .int kK])), (aT, .inr (1, [.ref aTc, .ref aTp, .int tL, .int tS, .int tQ, .int tF]))] sz)) := by
  refine proH (Qf := fun A => QI D (TY K) (wf_L_account K aX aC aCr aR aH aHr aT aTc aTp aL aS xS xF xR xD xC row kN kK tL tS tQ tF) v A) (XCf := fun _ => XN) (cc := cL_account) (maxL := 3) (ret := (some .int)) (by decide +kernel) rfl (Nat.le_of_ble_eq_true rfl) ?_
  intro p e s m args below meth c hx hb hr hts hown hlocks hml htab hK A hA hE hP hD hS ls hl
  have hown : s.vm.findClass RL = some m.cls := hown
  have hl : lv_has ls 3 [(0, .ref aX), (1, .int p2)] := hl
  rw [f_L_account] at hF
  refine lv_aload_n hx hb dL_account_0 rfl (lv_at hl 0 rfl) ?_
  refine lv_iload_n hx hb dL_account_1 rfl (lv_at hl 1 rfl) ?_
  obtain ⟨v1, hv1, hF⟩ := oB hF
  refine callX_i (wr := []) (wn := [(aX, .inr (5, [.ref aC, .ref aR, .ref aH, .ref aT, .ref aL, .ref aS, .int xS, .int xF, .int xR, .int xD, .int xC])), (aC, .inr (0, [.ref aCr])), (aCr, .inl (K 0, 55, .inl row)), (aH, .inr (2, [.ref aHr, .int kN, .int kK])), (aT, .inr (1, [.ref aTc, .ref aTp, .int tL, .int tS, .int tQ, .int tF]))]) (vx_runV (As := [.int p2]) (rest := []) ⟨hx, hb, hml, hown, hts⟩ (c_X7_account l hfl D K aX aC aCr aR aH aHr aT aTc aTp aL aS xS xF xR xD xC row kN kK tL tS tQ tF p2 v1 hv1 s.heap.size) (cwV 1 hts gL_account_X7_account rfl rfl rfl (by decide +kernel) ⟨(Nat.le_of_ble_eq_true rfl), (Nat.le_of_ble_eq_true rfl)⟩) (prV hE hK hP hD hS hA [0, 1, 2, 3, 4] rfl rfl 5 0 rfl rfl rfl) rfl rfl hl.1 rfl (lv_room (Nat.le_of_ble_eq_true rfl)) dL_account_2 ⟨(Nat.le_of_ble_eq_true rfl), (Nat.le_of_ble_eq_true rfl)⟩) hP hD hS hA [0, 1, 2, 3, 4] [] [0, 1, 2, 3, 4] rfl rfl rfl (by decide) rfl rfl (fun hzv1 H locs hP hD hS => ?_) (fun hzv1 q9 ce H locs hP hD hS hce hcv hcl => ?_)
  · have hF := oT hzv1 hF
    exact vx_ret (fin_i (u := (v1.2.1, ())) hF hx hb hr hlocks hK hP hD hS (Nat.le_of_ble_eq_true rfl) (Nat.le_of_ble_eq_true rfl) dL_account_5)
  · have hF := oF hzv1 hF
    by_cases c2 : v1.1 = 2
    · have hF := oT c2 hF
      rw [c2] at hcl
      refine vx_catch (E := "java/lang/IllegalArgumentException") (name := "java/lang/IllegalArgumentException") hown [] ⟨0, 5, 6, 50⟩ [] (htab.trans rfl) (fun z hz => nomatch hz) (by decide) (by decide) (hts (.classLink RL 50 "java/lang/IllegalArgumentException") (List.mem_of_getElem? (i := 1) rfl)) (va_Nw.use rfl (hE.2.2.2.2.1 _ (List.mem_of_getElem? (i := 2) rfl))) hce hcv hcl ?_
      refine lv_astore_n (lv' := [(2, .ref q9), (0, .ref aX), (1, .int p2)]) hx hb dL_account_6 rfl hl (by decide) rfl (fun ls hl => ?_)
      refine lv_sipush (v := (-1001 : Int32)) hx hb dL_account_7 (by decide) ?_
      exact vx_ret (fin_i (u := ((-1001 : Int32), ())) hF hx hb hr hlocks hK hP hD hS (Nat.le_of_ble_eq_true rfl) (Nat.le_of_ble_eq_true rfl) dL_account_10)
    have hF := oF c2 hF
    exact nomatch hF
