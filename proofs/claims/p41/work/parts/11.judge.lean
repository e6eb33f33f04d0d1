abbrev RM_X2_size : Room := { frames := 0, cells := 0, slots := 0, locals := 0 }
abbrev MC_X2_size : Nat := 0
abbrev MS_X2_size : Nat := 0
abbrev wf_X2_size (K : Nat → ClassId) (aH : Nat) (aHr : Nat) (kN : Int32) (kK : Int32) (v : Int32 × Unit) : va_W := [(aH, .inr (2, [.ref aHr, .int kN, .int kK]))]
set_option maxHeartbeats 4000000 in
set_option maxRecDepth 100000 in
theorem c_X2_size (l : Launch) (D : va_G) (K : Nat → ClassId) (aH : Nat) (aHr : Nat) (kN : Int32) (kK : Int32)  (v : Int32 × Unit) (hF : f_X2_size kK = some v) (sz : Nat) :
    (Met l yX2_size wsX2_size RM_X2_size (PC D (TY K) [(aH, .inr (2, [.ref aHr, .int kN, .int kK]))] [.ref aH] sz) (QI D (TY K) (wf_X2_size K aH aHr kN kK) v (va_A [(aH, .inr (2, [.ref aHr, .int kN, .int kK]))] sz)) MC_X2_size MS_X2_size (va_A [(aH, .inr (2, [.ref aHr, .int kN, .int kK]))] sz)) := by
  refine pro (Qf := fun A => QI D (TY K) (wf_X2_size K aH aHr kN kK) v A) (cc := cX2_size) (maxL := 1) (ret := (some .int)) (by decide +kernel) rfl (Nat.le_of_ble_eq_true rfl) ?_
  intro p e s m args below meth c hx hb hr hts hown hlocks hml hini hK A hA hE hP hD hS ls hl
  have hown : s.vm.findClass RX2 = some m.cls := hown
  have hl : lv_has ls 1 [(0, .ref aH)] := hl
  rw [f_X2_size] at hF
  refine lv_aload_n hx hb dX2_size_0 rfl (lv_at hl 0 rfl) ?_
  refine va_get (D := D) (ci := 2) (v := .int kK) (C := RX2) (T := TX2) (N := 3) hx hb hts (fun _ h => List.mem_cons_of_mem _ (List.mem_append_right _ h)) hown hK hP 0 rfl rfl 2 (by decide) (hts (.fieldLink RX2 19 "BarometerClub$History" "kept" "I") (List.mem_of_getElem? (i := 1) rfl)) (fun _ h9 => h9) rfl dX2_size_1 ?_
  exact fin_i (u := (kK, ())) hF hx hb hr hlocks hK hP hD hS (Nat.le_of_ble_eq_true rfl) (Nat.le_of_ble_eq_true rfl) dX2_size_4
abbrev RM_X2_prepare : Room := { frames := 2, cells := 0, slots := 0, locals := 142 }
abbrev MC_X2_prepare : Nat := 0
abbrev MS_X2_prepare : Nat := 0
abbrev wf_X2_prepare (K : Nat → ClassId) (aC : Nat) (aCr : Nat) (aH : Nat) (aHr : Nat) (row : Nat → Int32) (kN : Int32) (kK : Int32) (v : (Nat → Int32)) : va_W := [(aC, .inr (0, [.ref aCr])), (aCr, .inl (K 0, 55, .inl row)), (aH, .inr (2, [.ref aHr, .int kN, .int kK])), (aHr, .inl (K 1, 495, .inl v))]
set_option maxHeartbeats 4000000 in
set_option maxRecDepth 100000 in
theorem c_X2_prepare (l : Launch) (D : va_G) (K : Nat → ClassId) (aC : Nat) (aCr : Nat) (aH : Nat) (aHr : Nat) (row : Nat → Int32) (kN : Int32) (kK : Int32) (kF : Nat → Int32)  (v : (Nat → Int32)) (hF : f_X2_prepare row kN kF = some v) (sz : Nat) :
    (Met l yX2_prepare wsX2_prepare RM_X2_prepare (PC D (TY K) [(aC, .inr (0, [.ref aCr])), (aCr, .inl (K 0, 55, .inl row)), (aH, .inr (2, [.ref aHr, .int kN, .int kK])), (aHr, .inl (K 1, 495, .inl kF))] [.ref aH, .ref aC] sz) (QV D (TY K) (wf_X2_prepare K aC aCr aH aHr row kN kK) v (va_A [(aC, .inr (0, [.ref aCr])), (aCr, .inl (K 0, 55, .inl row)), (aH, .inr (2, [.ref aHr, .int kN, .int kK])), (aHr, .inl (K 1, 495, .inl kF))] sz)) MC_X2_prepare MS_X2_prepare (va_A [(aC, .inr (0, [.ref aCr])), (aCr, .inl (K 0, 55, .inl row)), (aH, .inr (2, [.ref aHr, .int kN, .int kK])), (aHr, .inl (K 1, 495, .inl kF))] sz)) := by
  refine pro (Qf := fun A => QV D (TY K) (wf_X2_prepare K aC aCr aH aHr row kN kK) v A) (cc := cX2_prepare) (maxL := 2) (ret := none) (by decide +kernel) rfl (Nat.le_of_ble_eq_true rfl) ?_
  intro p e s m args below meth c hx hb hr hts hown hlocks hml hini hK A hA hE hP hD hS ls hl
  have hown : s.vm.findClass RX2 = some m.cls := hown
  have hl : lv_has ls 2 [(0, .ref aH), (1, .ref aC)] := hl
  rw [f_X2_prepare] at hF
  refine lv_aload_n hx hb dX2_prepare_0 rfl (lv_at hl 1 rfl) ?_
  refine lv_aload_n hx hb dX2_prepare_1 rfl (lv_at hl 0 rfl) ?_
  refine va_get (D := D) (ci := 2) (v := .ref aHr) (C := RX2) (T := TX2) (N := 3) hx hb hts (fun _ h => List.mem_cons_of_mem _ (List.mem_append_left _ (List.mem_append_right _ h))) hown hK hP 2 rfl rfl 0 (by decide) (hts (.fieldLink RX2 11 "BarometerClub$History" "rows" "[I") (List.mem_of_getElem? (i := 1) rfl)) (fun _ h9 => h9) rfl dX2_prepare_2 ?_
  refine lv_aload_n hx hb dX2_prepare_5 rfl (lv_at hl 0 rfl) ?_
  refine va_get (D := D) (ci := 2) (v := .int kN) (C := RX2) (T := TX2) (N := 3) hx hb hts (fun _ h => List.mem_cons_of_mem _ (List.mem_append_left _ (List.mem_append_right _ h))) hown hK hP 2 rfl rfl 1 (by decide) (hts (.fieldLink RX2 15 "BarometerClub$History" "next" "I") (List.mem_of_getElem? (i := 2) rfl)) (fun _ h9 => h9) rfl dX2_prepare_6 ?_
  refine lv_bipush (v := (55 : Int32)) hx hb dX2_prepare_9 (by decide) ?_
  refine lv_imul hx hb dX2_prepare_11 ?_
  obtain ⟨v1, hv1, hF⟩ := oB hF
  refine call_v (wr := [(aH, .inr (2, [.ref aHr, .int kN, .int kK]))]) (wn := [(aC, .inr (0, [.ref aCr])), (aCr, .inl (K 0, 55, .inl row)), (aH, .inr (2, [.ref aHr, .int kN, .int kK])), (aHr, .inl (K 1, 495, .inl v1))]) (va_runV (As := [.ref aHr, .int (kN * (55 : Int32))]) (rest := []) ⟨hx, hb, hml, hown, hts⟩ (c_X0_copyTo l D K aC aCr aHr row kF (K 1) 495 1 rfl (kN * (55 : Int32)) v1 hv1 s.heap.size) (cwV 2 hts gX2_prepare_X0_copyTo rfl rfl rfl (by decide +kernel) ⟨(Nat.le_of_ble_eq_true rfl), (Nat.le_of_ble_eq_true rfl)⟩) (prV hE hK hP hD hS hA [0, 1, 3] rfl rfl 0 0 rfl rfl rfl) rfl rfl hl.1 rfl (lv_room (Nat.le_of_ble_eq_true rfl)) dX2_prepare_12 ⟨(Nat.le_of_ble_eq_true rfl), (Nat.le_of_ble_eq_true rfl)⟩) hP hD hS hA [0, 1, 3] [2] [1, 2, 0, 3] rfl rfl rfl (by decide) rfl rfl (fun H locs hP hD hS => ?_)
  exact fin_v (u := v1) hF hx hb hr hlocks hK hP hD hS (Nat.le_of_ble_eq_true rfl) (Nat.le_of_ble_eq_true rfl) dX2_prepare_15
abbrev RM_X2_returnToPrepared : Room := { frames := 2, cells := 0, slots := 0, locals := 142 }
abbrev MC_X2_returnToPrepared : Nat := 0
abbrev MS_X2_returnToPrepared : Nat := 0
abbrev wf_X2_returnToPrepared (K : Nat → ClassId) (aC : Nat) (aCr : Nat) (aH : Nat) (aHr : Nat) (kN : Int32) (kK : Int32) (kF : Nat → Int32) (v : (Nat → Int32)) : va_W := [(aC, .inr (0, [.ref aCr])), (aCr, .inl (K 0, 55, .inl v)), (aH, .inr (2, [.ref aHr, .int kN, .int kK])), (aHr, .inl (K 1, 495, .inl kF))]
set_option maxHeartbeats 4000000 in
set_option maxRecDepth 100000 in
theorem c_X2_returnToPrepared (l : Launch) (D : va_G) (K : Nat → ClassId) (aC : Nat) (aCr : Nat) (aH : Nat) (aHr : Nat) (row : Nat → Int32) (kN : Int32) (kK : Int32) (kF : Nat → Int32)  (v : (Nat → Int32)) (hF : f_X2_returnToPrepared row kN kF = some v) (sz : Nat) :
    (Met l yX2_returnToPrepared wsX2_returnToPrepared RM_X2_returnToPrepared (PC D (TY K) [(aC, .inr (0, [.ref aCr])), (aCr, .inl (K 0, 55, .inl row)), (aH, .inr (2, [.ref aHr, .int kN, .int kK])), (aHr, .inl (K 1, 495, .inl kF))] [.ref aH, .ref aC] sz) (QV D (TY K) (wf_X2_returnToPrepared K aC aCr aH aHr kN kK kF) v (va_A [(aC, .inr (0, [.ref aCr])), (aCr, .inl (K 0, 55, .inl row)), (aH, .inr (2, [.ref aHr, .int kN, .int kK])), (aHr, .inl (K 1, 495, .inl kF))] sz)) MC_X2_returnToPrepared MS_X2_returnToPrepared (va_A [(aC, .inr (0, [.ref aCr])), (aCr, .inl (K 0, 55, .inl row)), (aH, .inr (2, [.ref aHr, .int kN, .int kK])), (aHr, .inl (K 1, 495, .inl kF))] sz)) := by
  refine pro (Qf := fun A => QV D (TY K) (wf_X2_returnToPrepared K aC aCr aH aHr kN kK kF) v A) (cc := cX2_returnToPrepared) (maxL := 2) (ret := none) (by decide +kernel) rfl (Nat.le_of_ble_eq_true rfl) ?_
  intro p e s m args below meth c hx hb hr hts hown hlocks hml hini hK A hA hE hP hD hS ls hl
  have hown : s.vm.findClass RX2 = some m.cls := hown
  have hl : lv_has ls 2 [(0, .ref aH), (1, .ref aC)] := hl
  rw [f_X2_returnToPrepared] at hF
  refine lv_aload_n hx hb dX2_returnToPrepared_0 rfl (lv_at hl 1 rfl) ?_
  refine lv_aload_n hx hb dX2_returnToPrepared_1 rfl (lv_at hl 0 rfl) ?_
  refine va_get (D := D) (ci := 2) (v := .ref aHr) (C := RX2) (T := TX2) (N := 3) hx hb hts (fun _ h => List.mem_cons_of_mem _ (List.mem_append_left _ (List.mem_append_right _ h))) hown hK hP 2 rfl rfl 0 (by decide) (hts (.fieldLink RX2 11 "BarometerClub$History" "rows" "[I") (List.mem_of_getElem? (i := 1) rfl)) (fun _ h9 => h9) rfl dX2_returnToPrepared_2 ?_
  refine lv_aload_n hx hb dX2_returnToPrepared_5 rfl (lv_at hl 0 rfl) ?_
  refine va_get (D := D) (ci := 2) (v := .int kN) (C := RX2) (T := TX2) (N := 3) hx hb hts (fun _ h => List.mem_cons_of_mem _ (List.mem_append_left _ (List.mem_append_right _ h))) hown hK hP 2 rfl rfl 1 (by decide) (hts (.fieldLink RX2 15 "BarometerClub$History" "next" "I") (List.mem_of_getElem? (i := 2) rfl)) (fun _ h9 => h9) rfl dX2_returnToPrepared_6 ?_
  refine lv_bipush (v := (55 : Int32)) hx hb dX2_returnToPrepared_9 (by decide) ?_
  refine lv_imul hx hb dX2_returnToPrepared_11 ?_
  obtain ⟨v1, hv1, hF⟩ := oB hF
  refine call_v (wr := [(aH, .inr (2, [.ref aHr, .int kN, .int kK]))]) (wn := [(aC, .inr (0, [.ref aCr])), (aCr, .inl (K 0, 55, .inl v1)), (aH, .inr (2, [.ref aHr, .int kN, .int kK])), (aHr, .inl (K 1, 495, .inl kF))]) (va_runV (As := [.ref aHr, .int (kN * (55 : Int32))]) (rest := []) ⟨hx, hb, hml, hown, hts⟩ (c_X0_copyFrom l D K aC aCr aHr row kF (K 1) 495 1 rfl (kN * (55 : Int32)) v1 hv1 s.heap.size) (cwV 2 hts gX2_returnToPrepared_X0_copyFrom rfl rfl rfl (by decide +kernel) ⟨(Nat.le_of_ble_eq_true rfl), (Nat.le_of_ble_eq_true rfl)⟩) (prV hE hK hP hD hS hA [0, 1, 3] rfl rfl 0 0 rfl rfl rfl) rfl rfl hl.1 rfl (lv_room (Nat.le_of_ble_eq_true rfl)) dX2_returnToPrepared_12 ⟨(Nat.le_of_ble_eq_true rfl), (Nat.le_of_ble_eq_true rfl)⟩) hP hD hS hA [0, 1, 3] [2] [1, 2, 0, 3] rfl rfl rfl (by decide) rfl rfl (fun H locs hP hD hS => ?_)
  exact fin_v (u := v1) hF hx hb hr hlocks hK hP hD hS (Nat.le_of_ble_eq_true rfl) (Nat.le_of_ble_eq_true rfl) dX2_returnToPrepared_15
abbrev RM_X2_accept : Room := { frames := 1, cells := 0, slots := 0, locals := 21 }
abbrev MC_X2_accept : Nat := 0
abbrev MS_X2_accept : Nat := 0
abbrev wf_X2_accept (K : Nat → ClassId) (aH : Nat) (aHr : Nat)  (v : Int32 × Int32) : va_W := [(aH, .inr (2, [.ref aHr, .int v.1, .int v.2]))]
set_option maxHeartbeats 4000000 in
set_option maxRecDepth 100000 in
theorem c_X2_accept (l : Launch) (D : va_G) (K : Nat → ClassId) (aH : Nat) (aHr : Nat) (kN : Int32) (kK : Int32)  (v : Int32 × Int32) (hF : f_X2_accept kN kK = some v) (sz : Nat) :
    (Met l yX2_accept wsX2_accept RM_X2_accept (PC D (TY K) [(aH, .inr (2, [.ref aHr, .int kN, .int kK]))] [.ref aH] sz) (QV D (TY K) (wf_X2_accept K aH aHr) v (va_A [(aH, .inr (2, [.ref aHr, .int kN, .int kK]))] sz)) MC_X2_accept MS_X2_accept (va_A [(aH, .inr (2, [.ref aHr, .int kN, .int kK]))] sz)) := by
  refine pro (Qf := fun A => QV D (TY K) (wf_X2_accept K aH aHr) v A) (cc := cX2_accept) (maxL := 1) (ret := none) (by decide +kernel) rfl (Nat.le_of_ble_eq_true rfl) ?_
  intro p e s m args below meth c hx hb hr hts hown hlocks hml hini hK A hA hE hP hD hS ls hl
  have hown : s.vm.findClass RX2 = some m.cls := hown
  have hl : lv_has ls 1 [(0, .ref aH)] := hl
  rw [f_X2_accept] at hF
  refine lv_aload_n hx hb dX2_accept_0 rfl (lv_at hl 0 rfl) ?_
  refine lv_aload_n hx hb dX2_accept_1 rfl (lv_at hl 0 rfl) ?_
  refine va_get (D := D) (ci := 2) (v := .int kN) (C := RX2) (T := TX2) (N := 3) hx hb hts (fun _ h => List.mem_cons_of_mem _ (List.mem_append_right _ h)) hown hK hP 0 rfl rfl 1 (by decide) (hts (.fieldLink RX2 15 "BarometerClub$History" "next" "I") (List.mem_of_getElem? (i := 1) rfl)) (fun _ h9 => h9) rfl dX2_accept_2 ?_
  refine lv_iconst (v := (1 : Int32)) hx hb dX2_accept_5 (by decide) ?_
  refine lv_iadd hx hb dX2_accept_6 ?_
  refine lv_bipush (v := (9 : Int32)) hx hb dX2_accept_7 (by decide) ?_
  refine lv_icmp_ge (tgt := 21) hx hb dX2_accept_9 (by decide) (fun c1 => ?_) (fun c1 => ?_)
  · have hF := oT c1 hF
    refine lv_iconst (v := (0 : Int32)) hx hb dX2_accept_21 (by decide) ?_
    refine va_put (D := D) (ci := 2) (v := .int (0 : Int32)) (ty := .int) (C := RX2) (T := TX2) (N := 3) hx hb hts (fun _ h => List.mem_cons_of_mem _ (List.mem_append_right _ h)) tyX2 tyX2_ok nmX2 hown hK hP hD hS 0 rfl rfl 1 (by decide) (hts (.fieldLink RX2 15 "BarometerClub$History" "next" "I") (List.mem_of_getElem? (i := 1) rfl)) (fun _ h9 => h9) rfl (by decide +kernel) rfl rfl (Nat.le_of_ble_eq_true rfl) dX2_accept_22 (fun H locs hP hD hS => ?_)
    have hP : va_P D vwC7 [(aH, .inr (2, [.ref aHr, .int (0 : Int32), .int kK]))] H := hP
    have hD : va_D A [(aH, .inr (2, [.ref aHr, .int (0 : Int32), .int kK]))] := hD
    refine lv_aload_n hx hb dX2_accept_25 rfl (lv_at hl 0 rfl) ?_
    refine lv_aload_n hx hb dX2_accept_26 rfl (lv_at hl 0 rfl) ?_
    refine va_get (D := D) (ci := 2) (v := .int kK) (C := RX2) (T := TX2) (N := 3) hx hb hts (fun _ h => List.mem_cons_of_mem _ (List.mem_append_right _ h)) hown hK hP 0 rfl rfl 2 (by decide) (hts (.fieldLink RX2 19 "BarometerClub$History" "kept" "I") (List.mem_of_getElem? (i := 2) rfl)) (fun _ h9 => h9) rfl dX2_accept_27 ?_
    refine lv_iconst (v := (1 : Int32)) hx hb dX2_accept_30 (by decide) ?_
    refine lv_iadd hx hb dX2_accept_31 ?_
    refine lv_bipush (v := (8 : Int32)) hx hb dX2_accept_32 (by decide) ?_
    refine va_mmin hx hb (hml.trans hl.1.symm) hown (hts (.methodLink RX2 29 Lib.Math.min.name) (List.mem_of_getElem? (i := 3) rfl)) (hts (.static Lib.Math.min.name) (List.mem_of_getElem? (i := 4) rfl)) (hts (.initialized "java/lang/Math") (List.mem_of_getElem? (i := 5) rfl)) (hts (.code Lib.Math.min.name Lib.Math.min.code 2 (some .int)) (List.mem_of_getElem? (i := 6) rfl)) (Nat.le_of_ble_eq_true rfl) (Nat.le_of_ble_eq_true rfl) (Nat.le_of_ble_eq_true rfl) (Nat.le_of_ble_eq_true rfl) dX2_accept_34 ?_
    refine W.eq (g2 := F0 m 37 ls [.int (jmin (kK + (1 : Int32)) (8 : Int32)), .ref aH]) rfl ?_
    refine va_put (D := D) (ci := 2) (v := .int (jmin (kK + (1 : Int32)) (8 : Int32))) (ty := .int) (C := RX2) (T := TX2) (N := 3) hx hb hts (fun _ h => List.mem_cons_of_mem _ (List.mem_append_right _ h)) tyX2 tyX2_ok nmX2 hown hK hP hD hS 0 rfl rfl 2 (by decide) (hts (.fieldLink RX2 19 "BarometerClub$History" "kept" "I") (List.mem_of_getElem? (i := 2) rfl)) (fun _ h9 => h9) rfl (by decide +kernel) rfl rfl (Nat.le_of_ble_eq_true rfl) dX2_accept_37 (fun H locs hP hD hS => ?_)
    have hP : va_P D vwC7 [(aH, .inr (2, [.ref aHr, .int (0 : Int32), .int (jmin (kK + (1 : Int32)) (8 : Int32))]))] H := hP
    have hD : va_D A [(aH, .inr (2, [.ref aHr, .int (0 : Int32), .int (jmin (kK + (1 : Int32)) (8 : Int32))]))] := hD
    exact fin_v (u := ((0 : Int32), jmin (kK + (1 : Int32)) (8 : Int32))) hF hx hb hr hlocks hK hP hD hS (Nat.le_of_ble_eq_true rfl) (Nat.le_of_ble_eq_true rfl) dX2_accept_40
  · have hF := oF c1 hF
    refine lv_aload_n hx hb dX2_accept_12 rfl (lv_at hl 0 rfl) ?_
    refine va_get (D := D) (ci := 2) (v := .int kN) (C := RX2) (T := TX2) (N := 3) hx hb hts (fun _ h => List.mem_cons_of_mem _ (List.mem_append_right _ h)) hown hK hP 0 rfl rfl 1 (by decide) (hts (.fieldLink RX2 15 "BarometerClub$History" "next" "I") (List.mem_of_getElem? (i := 1) rfl)) (fun _ h9 => h9) rfl dX2_accept_13 ?_
    refine lv_iconst (v := (1 : Int32)) hx hb dX2_accept_16 (by decide) ?_
    refine lv_iadd hx hb dX2_accept_17 ?_
    refine lv_goto (tgt := 22) hx hb dX2_accept_18 (by decide) ?_
    refine va_put (D := D) (ci := 2) (v := .int (kN + (1 : Int32))) (ty := .int) (C := RX2) (T := TX2) (N := 3) hx hb hts (fun _ h => List.mem_cons_of_mem _ (List.mem_append_right _ h)) tyX2 tyX2_ok nmX2 hown hK hP hD hS 0 rfl rfl 1 (by decide) (hts (.fieldLink RX2 15 "BarometerClub$History" "next" "I") (List.mem_of_getElem? (i := 1) rfl)) (fun _ h9 => h9) rfl (by decide +kernel) rfl rfl (Nat.le_of_ble_eq_true rfl) dX2_accept_22 (fun H locs hP hD hS => ?_)
    have hP : va_P D vwC7 [(aH, .inr (2, [.ref aHr, .int (kN + (1 : Int32)), .int kK]))] H := hP
    have hD : va_D A [(aH, .inr (2, [.ref aHr, .int (kN + (1 : Int32)), .int kK]))] := hD
    refine lv_aload_n hx hb dX2_accept_25 rfl (lv_at hl 0 rfl) ?_
    refine lv_aload_n hx hb dX2_accept_26 rfl (lv_at hl 0 rfl) ?_
    refine va_get (D := D) (ci := 2) (v := .int kK) (C := RX2) (T := TX2) (N := 3) hx hb hts (fun _ h => List.mem_cons_of_mem _ (List.mem_append_right _ h)) hown hK hP 0 rfl rfl 2 (by decide) (hts (.fieldLink RX2 19 "BarometerClub$History" "kept" "I") (List.mem_of_getElem? (i := 2) rfl)) (fun _ h9 => h9) rfl dX2_accept_27 ?_
    refine lv_iconst (v := (1 : Int32)) hx hb dX2_accept_30 (by decide) ?_
    refine lv_iadd hx hb dX2_accept_31 ?_
    refine lv_bipush (v := (8 : Int32)) hx hb dX2_accept_32 (by decide) ?_
    refine va_mmin hx hb (hml.trans hl.1.symm) hown (hts (.methodLink RX2 29 Lib.Math.min.name) (List.mem_of_getElem? (i := 3) rfl)) (hts (.static Lib.Math.min.name) (List.mem_of_getElem? (i := 4) rfl)) (hts (.initialized "java/lang/Math") (List.mem_of_getElem? (i := 5) rfl)) (hts (.code Lib.Math.min.name Lib.Math.min.code 2 (some .int)) (List.mem_of_getElem? (i := 6) rfl)) (Nat.le_of_ble_eq_true rfl) (Nat.le_of_ble_eq_true rfl) (Nat.le_of_ble_eq_true rfl) (Nat.le_of_ble_eq_true rfl) dX2_accept_34 ?_
    refine W.eq (g2 := F0 m 37 ls [.int (jmin (kK + (1 : Int32)) (8 : Int32)), .ref aH]) rfl ?_
    refine va_put (D := D) (ci := 2) (v := .int (jmin (kK + (1 : Int32)) (8 : Int32))) (ty := .int) (C := RX2) (T := TX2) (N := 3) hx hb hts (fun _ h => List.mem_cons_of_mem _ (List.mem_append_right _ h)) tyX2 tyX2_ok nmX2 hown hK hP hD hS 0 rfl rfl 2 (by decide) (hts (.fieldLink RX2 19 "BarometerClub$History" "kept" "I") (List.mem_of_getElem? (i := 2) rfl)) (fun _ h9 => h9) rfl (by decide +kernel) rfl rfl (Nat.le_of_ble_eq_true rfl) dX2_accept_37 (fun H locs hP hD hS => ?_)
    have hP : va_P D vwC7 [(aH, .inr (2, [.ref aHr, .int (kN + (1 : Int32)), .int (jmin (kK + (1 : Int32)) (8 : Int32))]))] H := hP
    have hD : va_D A [(aH, .inr (2, [.ref aHr, .int (kN + (1 : Int32)), .int (jmin (kK + (1 : Int32)) (8 : Int32))]))] := hD
    exact fin_v (u := (kN + (1 : Int32), jmin (kK + (1 : Int32)) (8 : Int32))) hF hx hb hr hlocks hK hP hD hS (Nat.le_of_ble_eq_true rfl) (Nat.le_of_ble_eq_true rfl) dX2_accept_40
abbrev RM_X2_stepBack : Room := { frames := 3, cells := 0, slots := 0, locals := 163 }
abbrev MC_X2_stepBack : Nat := 0
abbrev MS_X2_stepBack : Nat := 0
abbrev wf_X2_stepBack (K : Nat → ClassId) (aC : Nat) (aCr : Nat) (aH : Nat) (aHr : Nat) (kF : Nat → Int32) (v : (Nat → Int32) × Int32 × Int32) : va_W := [(aC, .inr (0, [.ref aCr])), (aCr, .inl (K 0, 55, .inl v.1)), (aH, .inr (2, [.ref aHr, .int v.2.1, .int v.2.2])), (aHr, .inl (K 1, 495, .inl kF))]
set_option maxHeartbeats 4000000 in
set_option maxRecDepth 100000 in
theorem c_X2_stepBack (l : Launch) (D : va_G) (K : Nat → ClassId) (aC : Nat) (aCr : Nat) (aH : Nat) (aHr : Nat) (row : Nat → Int32) (kN : Int32) (kK : Int32) (kF : Nat → Int32)  (v : (Nat → Int32) × Int32 × Int32) (hF : f_X2_stepBack row kN kK kF = some v) (sz : Nat) :
    (Met l yX2_stepBack wsX2_stepBack RM_X2_stepBack (PC D (TY K) [(aC, .inr (0, [.ref aCr])), (aCr, .inl (K 0, 55, .inl row)), (aH, .inr (2, [.ref aHr, .int kN, .int kK])), (aHr, .inl (K 1, 495, .inl kF))] [.ref aH, .ref aC] sz) (QV D (TY K) (wf_X2_stepBack K aC aCr aH aHr kF) v (va_A [(aC, .inr (0, [.ref aCr])), (aCr, .inl (K 0, 55, .inl row)), (aH, .inr (2, [.ref aHr, .int kN, .int kK])), (aHr, .inl (K 1, 495, .inl kF))] sz)) MC_X2_stepBack MS_X2_stepBack (va_A [(aC, .inr (0, [.ref aCr])), (aCr, .inl (K 0, 55, .inl row)), (aH, .inr (2, [.ref aHr, .int kN, .int kK])), (aHr, .inl (K 1, 495, .inl kF))] sz)) := by
  refine pro (Qf := fun A => QV D (TY K) (wf_X2_stepBack K aC aCr aH aHr kF) v A) (cc := cX2_stepBack) (maxL := 2) (ret := none) (by decide +kernel) rfl (Nat.le_of_ble_eq_true rfl) ?_
  intro p e s m args below meth c hx hb hr hts hown hlocks hml hini hK A hA hE hP hD hS ls hl
  have hown : s.vm.findClass RX2 = some m.cls := hown
  have hl : lv_has ls 2 [(0, .ref aH), (1, .ref aC)] := hl
  rw [f_X2_stepBack] at hF
  refine lv_aload_n hx hb dX2_stepBack_0 rfl (lv_at hl 0 rfl) ?_
  refine lv_aload_n hx hb dX2_stepBack_1 rfl (lv_at hl 0 rfl) ?_
  refine va_get (D := D) (ci := 2) (v := .int kN) (C := RX2) (T := TX2) (N := 3) hx hb hts (fun _ h => List.mem_cons_of_mem _ (List.mem_append_left _ (List.mem_append_right _ h))) hown hK hP 2 rfl rfl 1 (by decide) (hts (.fieldLink RX2 15 "BarometerClub$History" "next" "I") (List.mem_of_getElem? (i := 1) rfl)) (fun _ h9 => h9) rfl dX2_stepBack_2 ?_
  refine lv_if_le (tgt := 17) hx hb dX2_stepBack_5 (by decide) (fun c1 => ?_) (fun c1 => ?_)
  · have hF := oT c1 hF
    refine lv_bipush (v := (8 : Int32)) hx hb dX2_stepBack_17 (by decide) ?_
    refine va_put (D := D) (ci := 2) (v := .int (8 : Int32)) (ty := .int) (C := RX2) (T := TX2) (N := 3) hx hb hts (fun _ h => List.mem_cons_of_mem _ (List.mem_append_left _ (List.mem_append_right _ h))) tyX2 tyX2_ok nmX2 hown hK hP hD hS 2 rfl rfl 1 (by decide) (hts (.fieldLink RX2 15 "BarometerClub$History" "next" "I") (List.mem_of_getElem? (i := 1) rfl)) (fun _ h9 => h9) rfl (by decide +kernel) rfl rfl (Nat.le_of_ble_eq_true rfl) dX2_stepBack_19 (fun H locs hP hD hS => ?_)
    have hP : va_P D vwC7 [(aC, .inr (0, [.ref aCr])), (aCr, .inl (K 0, 55, .inl row)), (aH, .inr (2, [.ref aHr, .int (8 : Int32), .int kK])), (aHr, .inl (K 1, 495, .inl kF))] H := hP
    have hD : va_D A [(aC, .inr (0, [.ref aCr])), (aCr, .inl (K 0, 55, .inl row)), (aH, .inr (2, [.ref aHr, .int (8 : Int32), .int kK])), (aHr, .inl (K 1, 495, .inl kF))] := hD
    refine lv_aload_n hx hb dX2_stepBack_22 rfl (lv_at hl 0 rfl) ?_
    refine lv_aload_n hx hb dX2_stepBack_23 rfl (lv_at hl 0 rfl) ?_
    refine va_get (D := D) (ci := 2) (v := .int kK) (C := RX2) (T := TX2) (N := 3) hx hb hts (fun _ h => List.mem_cons_of_mem _ (List.mem_append_left _ (List.mem_append_right _ h))) hown hK hP 2 rfl rfl 2 (by decide) (hts (.fieldLink RX2 19 "BarometerClub$History" "kept" "I") (List.mem_of_getElem? (i := 2) rfl)) (fun _ h9 => h9) rfl dX2_stepBack_24 ?_
    refine lv_iconst (v := (1 : Int32)) hx hb dX2_stepBack_27 (by decide) ?_
    refine lv_isub hx hb dX2_stepBack_28 ?_
    refine lv_iconst (v := (0 : Int32)) hx hb dX2_stepBack_29 (by decide) ?_
    refine va_mmax hx hb (hml.trans hl.1.symm) hown (hts (.methodLink RX2 35 Lib.Math.max.name) (List.mem_of_getElem? (i := 3) rfl)) (hts (.static Lib.Math.max.name) (List.mem_of_getElem? (i := 4) rfl)) (hts (.initialized "java/lang/Math") (List.mem_of_getElem? (i := 5) rfl)) (hts (.code Lib.Math.max.name Lib.Math.max.code 2 (some .int)) (List.mem_of_getElem? (i := 6) rfl)) (Nat.le_of_ble_eq_true rfl) (Nat.le_of_ble_eq_true rfl) (Nat.le_of_ble_eq_true rfl) (Nat.le_of_ble_eq_true rfl) dX2_stepBack_30 ?_
    refine W.eq (g2 := F0 m 33 ls [.int (jmax (kK - (1 : Int32)) (0 : Int32)), .ref aH]) rfl ?_
    refine va_put (D := D) (ci := 2) (v := .int (jmax (kK - (1 : Int32)) (0 : Int32))) (ty := .int) (C := RX2) (T := TX2) (N := 3) hx hb hts (fun _ h => List.mem_cons_of_mem _ (List.mem_append_left _ (List.mem_append_right _ h))) tyX2 tyX2_ok nmX2 hown hK hP hD hS 2 rfl rfl 2 (by decide) (hts (.fieldLink RX2 19 "BarometerClub$History" "kept" "I") (List.mem_of_getElem? (i := 2) rfl)) (fun _ h9 => h9) rfl (by decide +kernel) rfl rfl (Nat.le_of_ble_eq_true rfl) dX2_stepBack_33 (fun H locs hP hD hS => ?_)
    have hP : va_P D vwC7 [(aC, .inr (0, [.ref aCr])), (aCr, .inl (K 0, 55, .inl row)), (aH, .inr (2, [.ref aHr, .int (8 : Int32), .int (jmax (kK - (1 : Int32)) (0 : Int32))])), (aHr, .inl (K 1, 495, .inl kF))] H := hP
    have hD : va_D A [(aC, .inr (0, [.ref aCr])), (aCr, .inl (K 0, 55, .inl row)), (aH, .inr (2, [.ref aHr, .int (8 : Int32), .int (jmax (kK - (1 : Int32)) (0 : Int32))])), (aHr, .inl (K 1, 495, .inl kF))] := hD
    refine lv_aload_n hx hb dX2_stepBack_36 rfl (lv_at hl 0 rfl) ?_
    refine lv_aload_n hx hb dX2_stepBack_37 rfl (lv_at hl 1 rfl) ?_
    obtain ⟨v2, hv2, hF⟩ := oB hF
    refine call_v (wr := []) (wn := [(aC, .inr (0, [.ref aCr])), (aCr, .inl (K 0, 55, .inl v2)), (aH, .inr (2, [.ref aHr, .int (8 : Int32), .int (jmax (kK - (1 : Int32)) (0 : Int32))])), (aHr, .inl (K 1, 495, .inl kF))]) (va_runV (As := [.ref aC]) (rest := []) ⟨hx, hb, hml, hown, hts⟩ (c_X2_returnToPrepared l D K aC aCr aH aHr row (8 : Int32) (jmax (kK - (1 : Int32)) (0 : Int32)) kF v2 hv2 H.size) (cwV 1 hts gX2_stepBack_X2_returnToPrepared rfl rfl rfl (by decide +kernel) ⟨(Nat.le_of_ble_eq_true rfl), (Nat.le_of_ble_eq_true rfl)⟩) (prV hE hK hP hD hS hA [0, 1, 2, 3] rfl rfl 2 2 rfl rfl rfl) rfl rfl hl.1 rfl (lv_room (Nat.le_of_ble_eq_true rfl)) dX2_stepBack_38 ⟨(Nat.le_of_ble_eq_true rfl), (Nat.le_of_ble_eq_true rfl)⟩) hP hD hS hA [0, 1, 2, 3] [] [0, 1, 2, 3] rfl rfl rfl (by decide) rfl rfl (fun H locs hP hD hS => ?_)
    exact fin_v (u := (v2, (8 : Int32), jmax (kK - (1 : Int32)) (0 : Int32))) hF hx hb hr hlocks hK hP hD hS (Nat.le_of_ble_eq_true rfl) (Nat.le_of_ble_eq_true rfl) dX2_stepBack_41
  · have hF := oF c1 hF
    refine lv_aload_n hx hb dX2_stepBack_8 rfl (lv_at hl 0 rfl) ?_
    refine va_get (D := D) (ci := 2) (v := .int kN) (C := RX2) (T := TX2) (N := 3) hx hb hts (fun _ h => List.mem_cons_of_mem _ (List.mem_append_left _ (List.mem_append_right _ h))) hown hK hP 2 rfl rfl 1 (by decide) (hts (.fieldLink RX2 15 "BarometerClub$History" "next" "I") (List.mem_of_getElem? (i := 1) rfl)) (fun _ h9 => h9) rfl dX2_stepBack_9 ?_
    refine lv_iconst (v := (1 : Int32)) hx hb dX2_stepBack_12 (by decide) ?_
    refine lv_isub hx hb dX2_stepBack_13 ?_
    refine lv_goto (tgt := 19) hx hb dX2_stepBack_14 (by decide) ?_
    refine va_put (D := D) (ci := 2) (v := .int (kN - (1 : Int32))) (ty := .int) (C := RX2) (T := TX2) (N := 3) hx hb hts (fun _ h => List.mem_cons_of_mem _ (List.mem_append_left _ (List.mem_append_right _ h))) tyX2 tyX2_ok nmX2 hown hK hP hD hS 2 rfl rfl 1 (by decide) (hts (.fieldLink RX2 15 "BarometerClub$History" "next" "I") (List.mem_of_getElem? (i := 1) rfl)) (fun _ h9 => h9) rfl (by decide +kernel) rfl rfl (Nat.le_of_ble_eq_true rfl) dX2_stepBack_19 (fun H locs hP hD hS => ?_)
    have hP : va_P D vwC7 [(aC, .inr (0, [.ref aCr])), (aCr, .inl (K 0, 55, .inl row)), (aH, .inr (2, [.ref aHr, .int (kN - (1 : Int32)), .int kK])), (aHr, .inl (K 1, 495, .inl kF))] H := hP
    have hD : va_D A [(aC, .inr (0, [.ref aCr])), (aCr, .inl (K 0, 55, .inl row)), (aH, .inr (2, [.ref aHr, .int (kN - (1 : Int32)), .int kK])), (aHr, .inl (K 1, 495, .inl kF))] := hD
    refine lv_aload_n hx hb dX2_stepBack_22 rfl (lv_at hl 0 rfl) ?_
    refine lv_aload_n hx hb dX2_stepBack_23 rfl (lv_at hl 0 rfl) ?_
    refine va_get (D := D) (ci := 2) (v := .int kK) (C := RX2) (T := TX2) (N := 3) hx hb hts (fun _ h => List.mem_cons_of_mem _ (List.mem_append_left _ (List.mem_append_right _ h))) hown hK hP 2 rfl rfl 2 (by decide) (hts (.fieldLink RX2 19 "BarometerClub$History" "kept" "I") (List.mem_of_getElem? (i := 2) rfl)) (fun _ h9 => h9) rfl dX2_stepBack_24 ?_
    refine lv_iconst (v := (1 : Int32)) hx hb dX2_stepBack_27 (by decide) ?_
    refine lv_isub hx hb dX2_stepBack_28 ?_
    refine lv_iconst (v := (0 : Int32)) hx hb dX2_stepBack_29 (by decide) ?_
    refine va_mmax hx hb (hml.trans hl.1.symm) hown (hts (.methodLink RX2 35 Lib.Math.max.name) (List.mem_of_getElem? (i := 3) rfl)) (hts (.static Lib.Math.max.name) (List.mem_of_getElem? (i := 4) rfl)) (hts (.initialized "java/lang/Math") (List.mem_of_getElem? (i := 5) rfl)) (hts (.code Lib.Math.max.name Lib.Math.max.code 2 (some .int)) (List.mem_of_getElem? (i := 6) rfl)) (Nat.le_of_ble_eq_true rfl) (Nat.le_of_ble_eq_true rfl) (Nat.le_of_ble_eq_true rfl) (Nat.le_of_ble_eq_true rfl) dX2_stepBack_30 ?_
    refine W.eq (g2 := F0 m 33 ls [.int (jmax (kK - (1 : Int32)) (0 : Int32)), .ref aH]) rfl ?_
    refine va_put (D := D) (ci := 2) (v := .int (jmax (kK - (1 : Int32)) (0 : Int32))) (ty := .int) (C := RX2) (T := TX2) (N := 3) hx hb hts (fun _ h => List.mem_cons_of_mem _ (List.mem_append_left _ (List.mem_append_right _ h))) tyX2 tyX2_ok nmX2 hown hK hP hD hS 2 rfl rfl 2 (by decide) (hts (.fieldLink RX2 19 "BarometerClub$History" "kept" "I") (List.mem_of_getElem? (i := 2) rfl)) (fun _ h9 => h9) rfl (by decide +kernel) rfl rfl (Nat.le_of_ble_eq_true rfl) dX2_stepBack_33 (fun H locs hP hD hS => ?_)
    have hP : va_P D vwC7 [(aC, .inr (0, [.ref aCr])), (aCr, .inl (K 0, 55, .inl row)), (aH, .inr (2, [.ref aHr, .int (kN - (1 : Int32)), .int (jmax (kK - (1 : Int32)) (0 : Int32))])), (aHr, .inl (K 1, 495, .inl kF))] H := hP
    have hD : va_D A [(aC, .inr (0, [.ref aCr])), (aCr, .inl (K 0, 55, .inl row)), (aH, .inr (2, [.ref aHr, .int (kN - (1 : Int32)), .int (jmax (kK - (1 : Int32)) (0 : Int32))])), (aHr, .inl (K 1, 495, .inl kF))] := hD
    refine lv_aload_n hx hb dX2_stepBack_36 rfl (lv_at hl 0 rfl) ?_
    refine lv_aload_n hx hb dX2_stepBack_37 rfl (lv_at hl 1 rfl) ?_
    obtain ⟨v3, hv3, hF⟩ := oB hF
    refine call_v (wr := []) (wn := [(aC, .inr (0, [.ref aCr])), (aCr, .inl (K 0, 55, .inl v3)), (aH, .inr (2, [.ref aHr, .int (kN - (1 : Int32)), .int (jmax (kK - (1 : Int32)) (0 : Int32))])), (aHr, .inl (K 1, 495, .inl kF))]) (va_runV (As := [.ref aC]) (rest := []) ⟨hx, hb, hml, hown, hts⟩ (c_X2_returnToPrepared l D K aC aCr aH aHr row (kN - (1 : Int32)) (jmax (kK - (1 : Int32)) (0 : Int32)) kF v3 hv3 H.size) (cwV 1 hts gX2_stepBack_X2_returnToPrepared rfl rfl rfl (by decide +kernel) ⟨(Nat.le_of_ble_eq_true rfl), (Nat.le_of_ble_eq_true rfl)⟩) (prV hE hK hP hD hS hA [0, 1, 2, 3] rfl rfl 2 2 rfl rfl rfl) rfl rfl hl.1 rfl (lv_room (Nat.le_of_ble_eq_true rfl)) dX2_stepBack_38 ⟨(Nat.le_of_ble_eq_true rfl), (Nat.le_of_ble_eq_true rfl)⟩) hP hD hS hA [0, 1, 2, 3] [] [0, 1, 2, 3] rfl rfl rfl (by decide) rfl rfl (fun H locs hP hD hS => ?_)
    exact fin_v (u := (v3, kN - (1 : Int32), jmax (kK - (1 : Int32)) (0 : Int32))) hF hx hb hr hlocks hK hP hD hS (Nat.le_of_ble_eq_true rfl) (Nat.le_of_ble_eq_true rfl) dX2_stepBack_41
abbrev RM_X2_forget : Room := { frames := 0, cells := 0, slots := 0, locals := 0 }
abbrev MC_X2_forget : Nat := 0
abbrev MS_X2_forget : Nat := 0
abbrev wf_X2_forget (K : Nat → ClassId) (aH : Nat) (aHr : Nat) (kN : Int32) (v : Int32) : va_W := [(aH, .inr (2, [.ref aHr, .int kN, .int v]))]
set_option maxHeartbeats 4000000 in
set_option maxRecDepth 100000 in
theorem c_X2_forget (l : Launch) (D : va_G) (K : Nat → ClassId) (aH : Nat) (aHr : Nat) (kN : Int32) (kK : Int32)  (v : Int32) (hF : f_X2_forget kK = some v) (sz : Nat) :
    (Met l yX2_forget wsX2_forget RM_X2_forget (PC D (TY K) [(aH, .inr (2, [.ref aHr, .int kN, .int kK]))] [.ref aH] sz) (QV D (TY K) (wf_X2_forget K aH aHr kN) v (va_A [(aH, .inr (2, [.ref aHr, .int kN, .int kK]))] sz)) MC_X2_forget MS_X2_forget (va_A [(aH, .inr (2, [.ref aHr, .int kN, .int kK]))] sz)) := by
  refine pro (Qf := fun A => QV D (TY K) (wf_X2_forget K aH aHr kN) v A) (cc := cX2_forget) (maxL := 1) (ret := none) (by decide +kernel) rfl (Nat.le_of_ble_eq_true rfl) ?_
  intro p e s m args below meth c hx hb hr hts hown hlocks hml hini hK A hA hE hP hD hS ls hl
  have hown : s.vm.findClass RX2 = some m.cls := hown
  have hl : lv_has ls 1 [(0, .ref aH)] := hl
  rw [f_X2_forget] at hF
  refine lv_aload_n hx hb dX2_forget_0 rfl (lv_at hl 0 rfl) ?_
  refine lv_iconst (v := (0 : Int32)) hx hb dX2_forget_1 (by decide) ?_
  refine va_put (D := D) (ci := 2) (v := .int (0 : Int32)) (ty := .int) (C := RX2) (T := TX2) (N := 3) hx hb hts (fun _ h => List.mem_cons_of_mem _ (List.mem_append_right _ h)) tyX2 tyX2_ok nmX2 hown hK hP hD hS 0 rfl rfl 2 (by decide) (hts (.fieldLink RX2 19 "BarometerClub$History" "kept" "I") (List.mem_of_getElem? (i := 1) rfl)) (fun _ h9 => h9) rfl (by decide +kernel) rfl rfl (Nat.le_of_ble_eq_true rfl) dX2_forget_2 (fun H locs hP hD hS => ?_)
  have hP : va_P D vwC7 [(aH, .inr (2, [.ref aHr, .int kN, .int (0 : Int32)]))] H := hP
  have hD : va_D A [(aH, .inr (2, [.ref aHr, .int kN, .int (0 : Int32)]))] := hD
  exact fin_v (u := (0 : Int32)) hF hx hb hr hlocks hK hP hD hS (Nat.le_of_ble_eq_true rfl) (Nat.le_of_ble_eq_true rfl) dX2_forget_5
abbrev RM_X3_shown : Room := { frames := 1, cells := 0, slots := 0, locals := 23 }
abbrev MC_X3_shown : Nat := 0
abbrev MS_X3_shown : Nat := 0
abbrev wf_X3_shown (K : Nat → ClassId) (aC : Nat) (aCr : Nat) (row : Nat → Int32) (v : Int32 × Unit) : va_W := [(aC, .inr (0, [.ref aCr])), (aCr, .inl (K 0, 55, .inl row))]
set_option maxHeartbeats 4000000 in
set_option maxRecDepth 100000 in
theorem c_X3_shown (l : Launch) (D : va_G) (K : Nat → ClassId) (aC : Nat) (aCr : Nat) (row : Nat → Int32) (p2 : Int32) (p3 : Int32) (v : Int32 × Unit) (hF : f_X3_shown row p2 p3 = some v) (sz : Nat) :
    (Met l yX3_shown wsX3_shown RM_X3_shown (PC D (TY K) [(aC, .inr (0, [.ref aCr])), (aCr, .inl (K 0, 55, .inl row))] [.ref aC, .int p2, .int p3] sz) (QI D (TY K) (wf_X3_shown K aC aCr row) v (va_A [(aC, .inr (0, [.ref aCr])), (aCr, .inl (K 0, 55, .inl row))] sz)) MC_X3_shown MS_X3_shown (va_A [(aC, .inr (0, [.ref aCr])), (aCr, .inl (K 0, 55, .inl row))] sz)) := by
  refine pro (Qf := fun A => QI D (TY K) (wf_X3_shown K aC aCr row) v A) (cc := cX3_shown) (maxL := 3) (ret := (some .int)) (by decide +kernel) rfl (Nat.le_of_ble_eq_true rfl) ?_
  intro p e s m args below meth c hx hb hr hts hown hlocks hml hini hK A hA hE hP hD hS ls hl
  have hown : s.vm.findClass RX3 = some m.cls := hown
  have hl : lv_has ls 3 [(0, .ref aC), (1, .int p2), (2, .int p3)] := hl
  rw [f_X3_shown] at hF
  refine lv_iload_n hx hb dX3_shown_0 rfl (lv_at hl 2 rfl) ?_
  refine lv_bipush (v := (12 : Int32)) hx hb dX3_shown_1 (by decide) ?_
  refine lv_aload_n hx hb dX3_shown_3 rfl (lv_at hl 0 rfl) ?_
  refine lv_iload_n hx hb dX3_shown_4 rfl (lv_at hl 1 rfl) ?_
  refine lv_iconst (v := (1 : Int32)) hx hb dX3_shown_5 (by decide) ?_
  obtain ⟨v1, hv1, hF⟩ := oB hF
  refine call_i (wr := []) (wn := [(aC, .inr (0, [.ref aCr])), (aCr, .inl (K 0, 55, .inl row))]) (va_runV (As := [.int p2, .int (1 : Int32)]) (rest := [.int (12 : Int32), .int p3]) ⟨hx, hb, hml, hown, hts⟩ (c_X0_of l D K aC aCr row p2 (1 : Int32) v1 hv1 s.heap.size) (cwV 2 hts gX3_shown_X0_of rfl rfl rfl (by decide +kernel) ⟨(Nat.le_of_ble_eq_true rfl), (Nat.le_of_ble_eq_true rfl)⟩) (prV hE hK hP hD hS hA [0, 1] rfl rfl 0 0 rfl rfl rfl) rfl rfl hl.1 rfl (lv_room (Nat.le_of_ble_eq_true rfl)) dX3_shown_6 ⟨(Nat.le_of_ble_eq_true rfl), (Nat.le_of_ble_eq_true rfl)⟩) hP hD hS hA [0, 1] [] [0, 1] rfl rfl rfl (by decide) rfl rfl (fun H locs hP hD hS => ?_)
  refine lv_imul hx hb dX3_shown_9 ?_
  refine lv_isub hx hb dX3_shown_10 ?_
  exact fin_i (u := (p3 - ((12 : Int32) * v1.1), ())) hF hx hb hr hlocks hK hP hD hS (Nat.le_of_ble_eq_true rfl) (Nat.le_of_ble_eq_true rfl) dX3_shown_11
abbrev RM_X3_shownStepByStep : Room := { frames := 1, cells := 0, slots := 0, locals := 23 }
abbrev MC_X3_shownStepByStep : Nat := 0
abbrev MS_X3_shownStepByStep : Nat := 0
abbrev wf_X3_shownStepByStep (K : Nat → ClassId) (aC : Nat) (aCr : Nat) (row : Nat → Int32) (v : Int32 × Unit) : va_W := [(aC, .inr (0, [.ref aCr])), (aCr, .inl (K 0, 55, .inl row))]
set_option maxHeartbeats 4000000 in
set_option maxRecDepth 100000 in
theorem c_X3_shownStepByStep (l : Launch) (D : va_G) (K : Nat → ClassId) (aC : Nat) (aCr : Nat) (row : Nat → Int32) (p2 : Int32) (v : Int32 × Unit) (hF : f_X3_shownStepByStep row p2 = some v) (sz : Nat) :
    (Met l yX3_shownStepByStep wsX3_shownStepByStep RM_X3_shownStepByStep (PC D (TY K) [(aC, .inr (0, [.ref aCr])), (aCr, .inl (K 0, 55, .inl row))] [.ref aC, .int p2] sz) (QI D (TY K) (wf_X3_shownStepByStep K aC aCr row) v (va_A [(aC, .inr (0, [.ref aCr])), (aCr, .inl (K 0, 55, .inl row))] sz)) MC_X3_shownStepByStep MS_X3_shownStepByStep (va_A [(aC, .inr (0, [.ref aCr])), (aCr, .inl (K 0, 55, .inl row))] sz)) := by
  refine pro (Qf := fun A => QI D (TY K) (wf_X3_shownStepByStep K aC aCr row) v A) (cc := cX3_shownStepByStep) (maxL := 4) (ret := (some .int)) (by decide +kernel) rfl (Nat.le_of_ble_eq_true rfl) ?_
  intro p e s m args below meth c hx hb hr hts hown hlocks hml hini hK A hA hE hP hD hS ls hl
  have hown : s.vm.findClass RX3 = some m.cls := hown
  have hl : lv_has ls 4 [(0, .ref aC), (1, .int p2)] := hl
  have loop_8 : ∀ (y8_1 : Int32) (n : Nat) (y8_2 : Int32) (y8_3 : Int32), f_X3_shownStepByStep_L8 row y8_1 n y8_2 y8_3 = some v → ∀ (H : Heap) (locs : List Loc), va_P D vwC7 [(aC, .inr (0, [.ref aCr])), (aCr, .inl (K 0, 55, .inl row))] H → va_D A [(aC, .inr (0, [.ref aCr])), (aCr, .inl (K 0, 55, .inl row))] → va_S A s.heap H locs → ∀ ls : Array Slot, lv_has ls 4 [(0, .ref aC), (1, .int y8_1), (2, .int y8_2), (3, .int y8_3)] → W p l e RM_X3_shownStepByStep s m args below meth c H locs 0 0 (MQ below (QI D (TY K) (wf_X3_shownStepByStep K aC aCr row) v A) args s MC_X3_shownStepByStep MS_X3_shownStepByStep A) (F0 m 8 ls []) := by
    intro y8_1 n
    induction n with
    | zero =>
      intro y8_2 y8_3 hF
      exact nomatch hF
    | succ n ih =>
      intro y8_2 y8_3 hF H locs hP hD hS ls hl
      rw [f_X3_shownStepByStep_L8.eq_2] at hF
      refine lv_iload_n hx hb dX3_shownStepByStep_8 rfl (lv_at hl 3 rfl) ?_
      refine lv_aload_n hx hb dX3_shownStepByStep_9 rfl (lv_at hl 0 rfl) ?_
      refine lv_iload_n hx hb dX3_shownStepByStep_10 rfl (lv_at hl 1 rfl) ?_
      refine lv_iconst (v := (1 : Int32)) hx hb dX3_shownStepByStep_11 (by decide) ?_
      obtain ⟨v2, hv2, hF⟩ := oB hF
      refine call_i (wr := []) (wn := [(aC, .inr (0, [.ref aCr])), (aCr, .inl (K 0, 55, .inl row))]) (va_runV (As := [.int y8_1, .int (1 : Int32)]) (rest := [.int y8_3]) ⟨hx, hb, hml, hown, hts⟩ (c_X0_of l D K aC aCr row y8_1 (1 : Int32) v2 hv2 H.size) (cwV 2 hts gX3_shownStepByStep_X0_of rfl rfl rfl (by decide +kernel) ⟨(Nat.le_of_ble_eq_true rfl), (Nat.le_of_ble_eq_true rfl)⟩) (prV hE hK hP hD hS hA [0, 1] rfl rfl 0 0 rfl rfl rfl) rfl rfl hl.1 rfl (lv_room (Nat.le_of_ble_eq_true rfl)) dX3_shownStepByStep_12 ⟨(Nat.le_of_ble_eq_true rfl), (Nat.le_of_ble_eq_true rfl)⟩) hP hD hS hA [0, 1] [] [0, 1] rfl rfl rfl (by decide) rfl rfl (fun H locs hP hD hS => ?_)
      refine lv_icmp_ge (tgt := 27) hx hb dX3_shownStepByStep_15 (by decide) (fun c3 => ?_) (fun c3 => ?_)
      · have hF := oT c3 hF
        refine lv_iload_n hx hb dX3_shownStepByStep_27 rfl (lv_at hl 2 rfl) ?_
        exact fin_i (u := (y8_2, ())) hF hx hb hr hlocks hK hP hD hS (Nat.le_of_ble_eq_true rfl) (Nat.le_of_ble_eq_true rfl) dX3_shownStepByStep_28
      · have hF := oF c3 hF
        refine lv_iinc (v := y8_2 + (-12 : Int32)) (lv' := [(2, .int (y8_2 + (-12 : Int32))), (0, .ref aC), (1, .int y8_1), (3, .int y8_3)]) hx hb dX3_shownStepByStep_18 hl (k := 2) rfl (by first | rfl | decide) (by decide) rfl (fun ls hl => ?_)
        refine lv_iinc (v := y8_3 + (1 : Int32)) (lv' := [(3, .int (y8_3 + (1 : Int32))), (2, .int (y8_2 + (-12 : Int32))), (0, .ref aC), (1, .int y8_1)]) hx hb dX3_shownStepByStep_21 hl (k := 3) rfl (by first | rfl | decide) (by decide) rfl (fun ls hl => ?_)
        refine lv_goto (tgt := 8) hx hb dX3_shownStepByStep_24 (by decide) ?_
        exact ih (y8_2 + (-12 : Int32)) (y8_3 + (1 : Int32)) hF _ _ hP hD hS _ (lv_sub hl [2, 3, 1, 0] rfl)
  rw [f_X3_shownStepByStep] at hF
  refine lv_aload_n hx hb dX3_shownStepByStep_0 rfl (lv_at hl 0 rfl) ?_
  refine lv_iconst (v := (1 : Int32)) hx hb dX3_shownStepByStep_1 (by decide) ?_
  obtain ⟨v1, hv1, hF⟩ := oB hF
  refine call_i (wr := []) (wn := [(aC, .inr (0, [.ref aCr])), (aCr, .inl (K 0, 55, .inl row))]) (va_runV (As := [.int (1 : Int32)]) (rest := []) ⟨hx, hb, hml, hown, hts⟩ (c_X0_get l D K aC aCr row (1 : Int32) v1 hv1 s.heap.size) (cwV 1 hts gX3_shownStepByStep_X0_get rfl rfl rfl (by decide +kernel) ⟨(Nat.le_of_ble_eq_true rfl), (Nat.le_of_ble_eq_true rfl)⟩) (prV hE hK hP hD hS hA [0, 1] rfl rfl 0 0 rfl rfl rfl) rfl rfl hl.1 rfl (lv_room (Nat.le_of_ble_eq_true rfl)) dX3_shownStepByStep_2 ⟨(Nat.le_of_ble_eq_true rfl), (Nat.le_of_ble_eq_true rfl)⟩) hP hD hS hA [0, 1] [] [0, 1] rfl rfl rfl (by decide) rfl rfl (fun H locs hP hD hS => ?_)
  refine lv_istore_n (lv' := [(2, .int v1.1), (0, .ref aC), (1, .int p2)]) hx hb dX3_shownStepByStep_5 rfl hl (by decide) rfl (fun ls hl => ?_)
  refine lv_iconst (v := (0 : Int32)) hx hb dX3_shownStepByStep_6 (by decide) ?_
  refine lv_istore_n (lv' := [(3, .int (0 : Int32)), (2, .int v1.1), (0, .ref aC), (1, .int p2)]) hx hb dX3_shownStepByStep_7 rfl hl (by decide) rfl (fun ls hl => ?_)
  exact loop_8 p2 FU v1.1 (0 : Int32) hF _ _ hP hD hS _ (lv_sub hl [2, 3, 1, 0] rfl)
abbrev RM_X3_distance : Room := { frames := 2, cells := 0, slots := 0, locals := 45 }
abbrev MC_X3_distance : Nat := 0
abbrev MS_X3_distance : Nat := 0
abbrev wf_X3_distance (K : Nat → ClassId) (aC : Nat) (aCr : Nat) (row : Nat → Int32) (v : Int32 × Unit) : va_W := [(aC, .inr (0, [.ref aCr])), (aCr, .inl (K 0, 55, .inl row))]
set_option maxHeartbeats 4000000 in
set_option maxRecDepth 100000 in
theorem c_X3_distance (l : Launch) (D : va_G) (K : Nat → ClassId) (aC : Nat) (aCr : Nat) (row : Nat → Int32) (p2 : Int32) (p3 : Int32) (v : Int32 × Unit) (hF : f_X3_distance row p2 p3 = some v) (sz : Nat) :
    (Met l yX3_distance wsX3_distance RM_X3_distance (PC D (TY K) [(aC, .inr (0, [.ref aCr])), (aCr, .inl (K 0, 55, .inl row))] [.ref aC, .int p2, .int p3] sz) (QI D (TY K) (wf_X3_distance K aC aCr row) v (va_A [(aC, .inr (0, [.ref aCr])), (aCr, .inl (K 0, 55, .inl row))] sz)) MC_X3_distance MS_X3_distance (va_A [(aC, .inr (0, [.ref aCr])), (aCr, .inl (K 0, 55, .inl row))] sz)) := by
  refine pro (Qf := fun A => QI D (TY K) (wf_X3_distance K aC aCr row) v A) (cc := cX3_distance) (maxL := 3) (ret := (some .int)) (by decide +kernel) rfl (Nat.le_of_ble_eq_true rfl) ?_
  intro p e s m args below meth c hx hb hr hts hown hlocks hml hini hK A hA hE hP hD hS ls hl
  have hown : s.vm.findClass RX3 = some m.cls := hown
  have hl : lv_has ls 3 [(0, .ref aC), (1, .int p2), (2, .int p3)] := hl
  rw [f_X3_distance] at hF
  refine lv_aload_n hx hb dX3_distance_0 rfl (lv_at hl 0 rfl) ?_
  refine lv_iload_n hx hb dX3_distance_1 rfl (lv_at hl 1 rfl) ?_
  refine lv_iconst (v := (2 : Int32)) hx hb dX3_distance_2 (by decide) ?_
  obtain ⟨v1, hv1, hF⟩ := oB hF
  refine call_i (wr := []) (wn := [(aC, .inr (0, [.ref aCr])), (aCr, .inl (K 0, 55, .inl row))]) (va_runV (As := [.int p2, .int (2 : Int32)]) (rest := []) ⟨hx, hb, hml, hown, hts⟩ (c_X0_of l D K aC aCr row p2 (2 : Int32) v1 hv1 s.heap.size) (cwV 2 hts gX3_distance_X0_of rfl rfl rfl (by decide +kernel) ⟨(Nat.le_of_ble_eq_true rfl), (Nat.le_of_ble_eq_true rfl)⟩) (prV hE hK hP hD hS hA [0, 1] rfl rfl 0 0 rfl rfl rfl) rfl rfl hl.1 rfl (lv_room (Nat.le_of_ble_eq_true rfl)) dX3_distance_3 ⟨(Nat.le_of_ble_eq_true rfl), (Nat.le_of_ble_eq_true rfl)⟩) hP hD hS hA [0, 1] [] [0, 1] rfl rfl rfl (by decide) rfl rfl (fun H locs hP hD hS => ?_)
  refine lv_aload_n hx hb dX3_distance_6 rfl (lv_at hl 0 rfl) ?_
  refine lv_iload_n hx hb dX3_distance_7 rfl (lv_at hl 1 rfl) ?_
  refine lv_iload_n hx hb dX3_distance_8 rfl (lv_at hl 2 rfl) ?_
  obtain ⟨v2, hv2, hF⟩ := oB hF
  refine call_i (wr := []) (wn := [(aC, .inr (0, [.ref aCr])), (aCr, .inl (K 0, 55, .inl row))]) (va_runS (As := [.ref aC, .int p2, .int p3]) (rest := [.int v1.1]) ⟨hx, hb, hml, hown, hts⟩ (c_X3_shown l D K aC aCr row p2 p3 v2 hv2 H.size) (va_cwS 3 hts gX3_distance_X3_shown rfl rfl rfl (by decide +kernel) ⟨(Nat.le_of_ble_eq_true rfl), (Nat.le_of_ble_eq_true rfl)⟩) (prS hE hK hP hD hS hA [0, 1] rfl rfl) rfl rfl hl.1 rfl (lv_room (Nat.le_of_ble_eq_true rfl)) dX3_distance_9 ⟨(Nat.le_of_ble_eq_true rfl), (Nat.le_of_ble_eq_true rfl)⟩) hP hD hS hA [0, 1] [] [0, 1] rfl rfl rfl (by decide) rfl rfl (fun H locs hP hD hS => ?_)
  refine lv_isub hx hb dX3_distance_12 ?_
  refine va_mabs hx hb (hml.trans hl.1.symm) hown (hts (.methodLink RX3 25 Lib.Math.abs.name) (List.mem_of_getElem? (i := 1) rfl)) (hts (.static Lib.Math.abs.name) (List.mem_of_getElem? (i := 2) rfl)) (hts (.initialized "java/lang/Math") (List.mem_of_getElem? (i := 3) rfl)) (hts (.code Lib.Math.abs.name Lib.Math.abs.code 1 (some .int)) (List.mem_of_getElem? (i := 4) rfl)) (Nat.le_of_ble_eq_true rfl) (Nat.le_of_ble_eq_true rfl) (Nat.le_of_ble_eq_true rfl) (Nat.le_of_ble_eq_true rfl) dX3_distance_13 ?_
  refine W.eq (g2 := F0 m 16 ls [.int (jabs (v1.1 - v2.1))]) rfl ?_
  exact fin_i (u := (jabs (v1.1 - v2.1), ())) hF hx hb hr hlocks hK hP hD hS (Nat.le_of_ble_eq_true rfl) (Nat.le_of_ble_eq_true rfl) dX3_distance_16
abbrev RM_X3_canWin : Room := { frames := 2, cells := 0, slots := 0, locals := 44 }
abbrev MC_X3_canWin : Nat := 0
abbrev MS_X3_canWin : Nat := 0
abbrev wf_X3_canWin (K : Nat → ClassId) (aC : Nat) (aCr : Nat) (row : Nat → Int32) (v : Int32 × Unit) : va_W := [(aC, .inr (0, [.ref aCr])), (aCr, .inl (K 0, 55, .inl row))]
set_option maxHeartbeats 4000000 in
set_option maxRecDepth 100000 in
theorem c_X3_canWin (l : Launch) (D : va_G) (K : Nat → ClassId) (aC : Nat) (aCr : Nat) (row : Nat → Int32) (p2 : Int32) (v : Int32 × Unit) (hF : f_X3_canWin row p2 = some v) (sz : Nat) :
    (Met l yX3_canWin wsX3_canWin RM_X3_canWin (PC D (TY K) [(aC, .inr (0, [.ref aCr])), (aCr, .inl (K 0, 55, .inl row))] [.ref aC, .int p2] sz) (QI D (TY K) (wf_X3_canWin K aC aCr row) v (va_A [(aC, .inr (0, [.ref aCr])), (aCr, .inl (K 0, 55, .inl row))] sz)) MC_X3_canWin MS_X3_canWin (va_A [(aC, .inr (0, [.ref aCr])), (aCr, .inl (K 0, 55, .inl row))] sz)) := by
  refine pro (Qf := fun A => QI D (TY K) (wf_X3_canWin K aC aCr row) v A) (cc := cX3_canWin) (maxL := 2) (ret := (some .boolean)) (by decide +kernel) rfl (Nat.le_of_ble_eq_true rfl) ?_
  intro p e s m args below meth c hx hb hr hts hown hlocks hml hini hK A hA hE hP hD hS ls hl
  have hown : s.vm.findClass RX3 = some m.cls := hown
  have hl : lv_has ls 2 [(0, .ref aC), (1, .int p2)] := hl
  rw [f_X3_canWin] at hF
  refine lv_aload_n hx hb dX3_canWin_0 rfl (lv_at hl 0 rfl) ?_
  refine lv_iload_n hx hb dX3_canWin_1 rfl (lv_at hl 1 rfl) ?_
  obtain ⟨v1, hv1, hF⟩ := oB hF
  refine call_i (wr := []) (wn := [(aC, .inr (0, [.ref aCr])), (aCr, .inl (K 0, 55, .inl row))]) (va_runV (As := [.int p2]) (rest := []) ⟨hx, hb, hml, hown, hts⟩ (c_X0_hasWagered l D K aC aCr row p2 v1 hv1 s.heap.size) (cwV 1 hts gX3_canWin_X0_hasWagered rfl rfl rfl (by decide +kernel) ⟨(Nat.le_of_ble_eq_true rfl), (Nat.le_of_ble_eq_true rfl)⟩) (prV hE hK hP hD hS hA [0, 1] rfl rfl 0 0 rfl rfl rfl) rfl rfl hl.1 rfl (lv_room (Nat.le_of_ble_eq_true rfl)) dX3_canWin_2 ⟨(Nat.le_of_ble_eq_true rfl), (Nat.le_of_ble_eq_true rfl)⟩) hP hD hS hA [0, 1] [] [0, 1] rfl rfl rfl (by decide) rfl rfl (fun H locs hP hD hS => ?_)
  refine lv_if_eq (tgt := 20) hx hb dX3_canWin_5 (by decide) (fun c2 => ?_) (fun c2 => ?_)
  · have hF := oT c2 hF
    refine lv_iconst (v := (0 : Int32)) hx hb dX3_canWin_20 (by decide) ?_
    exact fin_z (u := ((0 : Int32), ())) hF (okN_n (ty := .boolean) (x := (0 : Int32)) (by decide)) hx hb hr hlocks hK hP hD hS (Nat.le_of_ble_eq_true rfl) (Nat.le_of_ble_eq_true rfl) dX3_canWin_21
  · have hF := oF c2 hF
    refine lv_aload_n hx hb dX3_canWin_8 rfl (lv_at hl 0 rfl) ?_
    refine lv_iload_n hx hb dX3_canWin_9 rfl (lv_at hl 1 rfl) ?_
    obtain ⟨v3, hv3, hF⟩ := oB hF
    refine call_i (wr := []) (wn := [(aC, .inr (0, [.ref aCr])), (aCr, .inl (K 0, 55, .inl row))]) (va_runV (As := [.int p2]) (rest := []) ⟨hx, hb, hml, hown, hts⟩ (c_X0_hasTapped l D K aC aCr row p2 v3 hv3 H.size) (cwV 1 hts gX3_canWin_X0_hasTapped rfl rfl rfl (by decide +kernel) ⟨(Nat.le_of_ble_eq_true rfl), (Nat.le_of_ble_eq_true rfl)⟩) (prV hE hK hP hD hS hA [0, 1] rfl rfl 0 0 rfl rfl rfl) rfl rfl hl.1 rfl (lv_room (Nat.le_of_ble_eq_true rfl)) dX3_canWin_10 ⟨(Nat.le_of_ble_eq_true rfl), (Nat.le_of_ble_eq_true rfl)⟩) hP hD hS hA [0, 1] [] [0, 1] rfl rfl rfl (by decide) rfl rfl (fun H locs hP hD hS => ?_)
    refine lv_if_ne (tgt := 20) hx hb dX3_canWin_13 (by decide) (fun c4 => ?_) (fun c4 => ?_)
    · have hF := oF c4 hF
      refine lv_iconst (v := (0 : Int32)) hx hb dX3_canWin_20 (by decide) ?_
      exact fin_z (u := ((0 : Int32), ())) hF (okN_n (ty := .boolean) (x := (0 : Int32)) (by decide)) hx hb hr hlocks hK hP hD hS (Nat.le_of_ble_eq_true rfl) (Nat.le_of_ble_eq_true rfl) dX3_canWin_21
    · have hF := oT c4 hF
      refine lv_iconst (v := (1 : Int32)) hx hb dX3_canWin_16 (by decide) ?_
      refine lv_goto (tgt := 21) hx hb dX3_canWin_17 (by decide) ?_
      exact fin_z (u := ((1 : Int32), ())) hF (okN_n (ty := .boolean) (x := (1 : Int32)) (by decide)) hx hb hr hlocks hK hP hD hS (Nat.le_of_ble_eq_true rfl) (Nat.le_of_ble_eq_true rfl) dX3_canWin_21
abbrev RM_X3_nearest : Room := { frames := 3, cells := 0, slots := 0, locals := 67 }
abbrev MC_X3_nearest : Nat := 0
abbrev MS_X3_nearest : Nat := 0
abbrev wf_X3_nearest (K : Nat → ClassId) (aC : Nat) (aCr : Nat) (row : Nat → Int32) (v : Int32 × Unit) : va_W := [(aC, .inr (0, [.ref aCr])), (aCr, .inl (K 0, 55, .inl row))]
set_option maxHeartbeats 4000000 in
set_option maxRecDepth 100000 in
theorem c_X3_nearest (l : Launch) (D : va_G) (K : Nat → ClassId) (aC : Nat) (aCr : Nat) (row : Nat → Int32) (p2 : Int32) (v : Int32 × Unit) (hF : f_X3_nearest row p2 = some v) (sz : Nat) :
    (Met l yX3_nearest wsX3_nearest RM_X3_nearest (PC D (TY K) [(aC, .inr (0, [.ref aCr])), (aCr, .inl (K 0, 55, .inl row))] [.ref aC, .int p2] sz) (QI D (TY K) (wf_X3_nearest K aC aCr row) v (va_A [(aC, .inr (0, [.ref aCr])), (aCr, .inl (K 0, 55, .inl row))] sz)) MC_X3_nearest MS_X3_nearest (va_A [(aC, .inr (0, [.ref aCr])), (aCr, .inl (K 0, 55, .inl row))] sz)) := by
  refine pro (Qf := fun A => QI D (TY K) (wf_X3_nearest K aC aCr row) v A) (cc := cX3_nearest) (maxL := 6) (ret := (some .int)) (by decide +kernel) rfl (Nat.le_of_ble_eq_true rfl) ?_
  intro p e s m args below meth c hx hb hr hts hown hlocks hml hini hK A hA hE hP hD hS ls hl
  have hown : s.vm.findClass RX3 = some m.cls := hown
  have hl : lv_has ls 6 [(0, .ref aC), (1, .int p2)] := hl
  have loop_7 : ∀ (y7_1 : Int32) (n : Nat) (y7_2 : Int32) (y7_3 : Int32) (y7_4 : Int32), f_X3_nearest_L7 row y7_1 n y7_2 y7_3 y7_4 = some v → ∀ (H : Heap) (locs : List Loc), va_P D vwC7 [(aC, .inr (0, [.ref aCr])), (aCr, .inl (K 0, 55, .inl row))] H → va_D A [(aC, .inr (0, [.ref aCr])), (aCr, .inl (K 0, 55, .inl row))] → va_S A s.heap H locs → ∀ ls : Array Slot, lv_has ls 6 [(0, .ref aC), (1, .int y7_1), (2, .int y7_2), (3, .int y7_3), (4, .int y7_4)] → W p l e RM_X3_nearest s m args below meth c H locs 0 0 (MQ below (QI D (TY K) (wf_X3_nearest K aC aCr row) v A) args s MC_X3_nearest MS_X3_nearest A) (F0 m 7 ls []) := by
    intro y7_1 n
    induction n with
    | zero =>
      intro y7_2 y7_3 y7_4 hF
      exact nomatch hF
    | succ n ih =>
      intro y7_2 y7_3 y7_4 hF H locs hP hD hS ls hl
      rw [f_X3_nearest_L7.eq_2] at hF
      refine lv_iload hx hb dX3_nearest_7 (lv_at hl 4 rfl) ?_
      refine lv_aload_n hx hb dX3_nearest_9 rfl (lv_at hl 0 rfl) ?_
      refine lv_iconst (v := (0 : Int32)) hx hb dX3_nearest_10 (by decide) ?_
      obtain ⟨v1, hv1, hF⟩ := oB hF
      refine call_i (wr := []) (wn := [(aC, .inr (0, [.ref aCr])), (aCr, .inl (K 0, 55, .inl row))]) (va_runV (As := [.int (0 : Int32)]) (rest := [.int y7_4]) ⟨hx, hb, hml, hown, hts⟩ (c_X0_get l D K aC aCr row (0 : Int32) v1 hv1 H.size) (cwV 1 hts gX3_nearest_X0_get rfl rfl rfl (by decide +kernel) ⟨(Nat.le_of_ble_eq_true rfl), (Nat.le_of_ble_eq_true rfl)⟩) (prV hE hK hP hD hS hA [0, 1] rfl rfl 0 0 rfl rfl rfl) rfl rfl hl.1 rfl (lv_room (Nat.le_of_ble_eq_true rfl)) dX3_nearest_11 ⟨(Nat.le_of_ble_eq_true rfl), (Nat.le_of_ble_eq_true rfl)⟩) hP hD hS hA [0, 1] [] [0, 1] rfl rfl rfl (by decide) rfl rfl (fun H locs hP hD hS => ?_)
      refine lv_icmp_ge (tgt := 78) hx hb dX3_nearest_14 (by decide) (fun c2 => ?_) (fun c2 => ?_)
      · have hF := oT c2 hF
        refine lv_iload_n hx hb dX3_nearest_78 rfl (lv_at hl 2 rfl) ?_
        exact fin_i (u := (y7_2, ())) hF hx hb hr hlocks hK hP hD hS (Nat.le_of_ble_eq_true rfl) (Nat.le_of_ble_eq_true rfl) dX3_nearest_79
      · have hF := oF c2 hF
        refine lv_aload_n hx hb dX3_nearest_17 rfl (lv_at hl 0 rfl) ?_
        refine lv_iload hx hb dX3_nearest_18 (lv_at hl 4 rfl) ?_
        obtain ⟨v3, hv3, hF⟩ := oB hF
        refine call_i (wr := []) (wn := [(aC, .inr (0, [.ref aCr])), (aCr, .inl (K 0, 55, .inl row))]) (va_runS (As := [.ref aC, .int y7_4]) (rest := []) ⟨hx, hb, hml, hown, hts⟩ (c_X3_canWin l D K aC aCr row y7_4 v3 hv3 H.size) (va_cwS 2 hts gX3_nearest_X3_canWin rfl rfl rfl (by decide +kernel) ⟨(Nat.le_of_ble_eq_true rfl), (Nat.le_of_ble_eq_true rfl)⟩) (prS hE hK hP hD hS hA [0, 1] rfl rfl) rfl rfl hl.1 rfl (lv_room (Nat.le_of_ble_eq_true rfl)) dX3_nearest_20 ⟨(Nat.le_of_ble_eq_true rfl), (Nat.le_of_ble_eq_true rfl)⟩) hP hD hS hA [0, 1] [] [0, 1] rfl rfl rfl (by decide) rfl rfl (fun H locs hP hD hS => ?_)
        refine lv_if_ne (tgt := 29) hx hb dX3_nearest_23 (by decide) (fun c4 => ?_) (fun c4 => ?_)
        · have hF := oF c4 hF
          refine lv_aload_n hx hb dX3_nearest_29 rfl (lv_at hl 0 rfl) ?_
          refine lv_iload hx hb dX3_nearest_30 (lv_at hl 4 rfl) ?_
          refine lv_iload_n hx hb dX3_nearest_32 rfl (lv_at hl 1 rfl) ?_
          obtain ⟨v5, hv5, hF⟩ := oB hF
          refine call_i (wr := []) (wn := [(aC, .inr (0, [.ref aCr])), (aCr, .inl (K 0, 55, .inl row))]) (va_runS (As := [.ref aC, .int y7_4, .int y7_1]) (rest := []) ⟨hx, hb, hml, hown, hts⟩ (c_X3_distance l D K aC aCr row y7_4 y7_1 v5 hv5 H.size) (va_cwS 3 hts gX3_nearest_X3_distance rfl rfl rfl (by decide +kernel) ⟨(Nat.le_of_ble_eq_true rfl), (Nat.le_of_ble_eq_true rfl)⟩) (prS hE hK hP hD hS hA [0, 1] rfl rfl) rfl rfl hl.1 rfl (lv_room (Nat.le_of_ble_eq_true rfl)) dX3_nearest_33 ⟨(Nat.le_of_ble_eq_true rfl), (Nat.le_of_ble_eq_true rfl)⟩) hP hD hS hA [0, 1] [] [0, 1] rfl rfl rfl (by decide) rfl rfl (fun H locs hP hD hS => ?_)
          refine lv_istore (lv' := [(5, .int v5.1), (0, .ref aC), (1, .int y7_1), (2, .int y7_2), (3, .int y7_3), (4, .int y7_4)]) hx hb dX3_nearest_36 hl (by decide) rfl (fun ls hl => ?_)
          refine lv_iload_n hx hb dX3_nearest_38 rfl (lv_at hl 3 rfl) ?_
          refine lv_if_eq (tgt := 48) hx hb dX3_nearest_39 (by decide) (fun c6 => ?_) (fun c6 => ?_)
          · have hF := oT c6 hF
            refine lv_iload hx hb dX3_nearest_48 (lv_at hl 0 rfl) ?_
            refine lv_istore_n (lv' := [(3, .int v5.1), (5, .int v5.1), (0, .ref aC), (1, .int y7_1), (2, .int y7_2), (4, .int y7_4)]) hx hb dX3_nearest_50 rfl hl (by decide) rfl (fun ls hl => ?_)
            refine lv_iconst (v := (1 : Int32)) hx hb dX3_nearest_51 (by decide) ?_
            refine lv_iload hx hb dX3_nearest_52 (lv_at hl 5 rfl) ?_
            refine lv_ishl hx hb dX3_nearest_54 ?_
            refine lv_istore_n (lv' := [(2, .int ((1 : Int32) <<< (y7_4 &&& 31))), (3, .int v5.1), (5, .int v5.1), (0, .ref aC), (1, .int y7_1), (4, .int y7_4)]) hx hb dX3_nearest_55 rfl hl (by decide) rfl (fun ls hl => ?_)
            refine lv_goto (tgt := 72) hx hb dX3_nearest_56 (by decide) ?_
            refine lv_iinc (v := y7_4 + (1 : Int32)) (lv' := [(4, .int (y7_4 + (1 : Int32))), (2, .int ((1 : Int32) <<< (y7_4 &&& 31))), (3, .int v5.1), (5, .int v5.1), (0, .ref aC), (1, .int y7_1)]) hx hb dX3_nearest_72 hl (k := 5) rfl (by first | rfl | decide) (by decide) rfl (fun ls hl => ?_)
            refine lv_goto (tgt := 7) hx hb dX3_nearest_75 (by decide) ?_
            exact ih ((1 : Int32) <<< (y7_4 &&& 31)) v5.1 (y7_4 + (1 : Int32)) hF _ _ hP hD hS _ (lv_sub hl [4, 5, 1, 2, 0] rfl)
          · have hF := oF c6 hF
            refine lv_iload hx hb dX3_nearest_42 (lv_at hl 0 rfl) ?_
            refine lv_iload_n hx hb dX3_nearest_44 rfl (lv_at hl 4 rfl) ?_
            refine lv_icmp_ge (tgt := 59) hx hb dX3_nearest_45 (by decide) (fun c7 => ?_) (fun c7 => ?_)
            · have hF := oT c7 hF
              refine lv_iload hx hb dX3_nearest_59 (lv_at hl 0 rfl) ?_
              refine lv_iload_n hx hb dX3_nearest_61 rfl (lv_at hl 4 rfl) ?_
              refine lv_icmp_ne (tgt := 72) hx hb dX3_nearest_62 (by decide) (fun c8 => ?_) (fun c8 => ?_)
              · have hF := oF c8 hF
                refine lv_iinc (v := y7_4 + (1 : Int32)) (lv' := [(4, .int (y7_4 + (1 : Int32))), (5, .int v5.1), (0, .ref aC), (1, .int y7_1), (2, .int y7_2), (3, .int y7_3)]) hx hb dX3_nearest_72 hl (k := 5) rfl (by first | rfl | decide) (by decide) rfl (fun ls hl => ?_)
                refine lv_goto (tgt := 7) hx hb dX3_nearest_75 (by decide) ?_
                exact ih y7_2 y7_3 (y7_4 + (1 : Int32)) hF _ _ hP hD hS _ (lv_sub hl [2, 3, 4, 5, 0] rfl)
              · have hF := oT c8 hF
                refine lv_iload_n hx hb dX3_nearest_65 rfl (lv_at hl 3 rfl) ?_
                refine lv_iconst (v := (1 : Int32)) hx hb dX3_nearest_66 (by decide) ?_
                refine lv_iload hx hb dX3_nearest_67 (lv_at hl 5 rfl) ?_
                refine lv_ishl hx hb dX3_nearest_69 ?_
                refine lv_ior hx hb dX3_nearest_70 ?_
                refine lv_istore_n (lv' := [(2, .int (y7_2 ||| ((1 : Int32) <<< (y7_4 &&& 31)))), (5, .int v5.1), (0, .ref aC), (1, .int y7_1), (3, .int y7_3), (4, .int y7_4)]) hx hb dX3_nearest_71 rfl hl (by decide) rfl (fun ls hl => ?_)
                refine lv_iinc (v := y7_4 + (1 : Int32)) (lv' := [(4, .int (y7_4 + (1 : Int32))), (2, .int (y7_2 ||| ((1 : Int32) <<< (y7_4 &&& 31)))), (5, .int v5.1), (0, .ref aC), (1, .int y7_1), (3, .int y7_3)]) hx hb dX3_nearest_72 hl (k := 5) rfl (by first | rfl | decide) (by decide) rfl (fun ls hl => ?_)
                refine lv_goto (tgt := 7) hx hb dX3_nearest_75 (by decide) ?_
                exact ih (y7_2 ||| ((1 : Int32) <<< (y7_4 &&& 31))) y7_3 (y7_4 + (1 : Int32)) hF _ _ hP hD hS _ (lv_sub hl [3, 4, 1, 5, 0] rfl)
            · have hF := oF c7 hF
              refine lv_iload hx hb dX3_nearest_48 (lv_at hl 0 rfl) ?_
              refine lv_istore_n (lv' := [(3, .int v5.1), (5, .int v5.1), (0, .ref aC), (1, .int y7_1), (2, .int y7_2), (4, .int y7_4)]) hx hb dX3_nearest_50 rfl hl (by decide) rfl (fun ls hl => ?_)
              refine lv_iconst (v := (1 : Int32)) hx hb dX3_nearest_51 (by decide) ?_
              refine lv_iload hx hb dX3_nearest_52 (lv_at hl 5 rfl) ?_
              refine lv_ishl hx hb dX3_nearest_54 ?_
              refine lv_istore_n (lv' := [(2, .int ((1 : Int32) <<< (y7_4 &&& 31))), (3, .int v5.1), (5, .int v5.1), (0, .ref aC), (1, .int y7_1), (4, .int y7_4)]) hx hb dX3_nearest_55 rfl hl (by decide) rfl (fun ls hl => ?_)
              refine lv_goto (tgt := 72) hx hb dX3_nearest_56 (by decide) ?_
              refine lv_iinc (v := y7_4 + (1 : Int32)) (lv' := [(4, .int (y7_4 + (1 : Int32))), (2, .int ((1 : Int32) <<< (y7_4 &&& 31))), (3, .int v5.1), (5, .int v5.1), (0, .ref aC), (1, .int y7_1)]) hx hb dX3_nearest_72 hl (k := 5) rfl (by first | rfl | decide) (by decide) rfl (fun ls hl => ?_)
              refine lv_goto (tgt := 7) hx hb dX3_nearest_75 (by decide) ?_
              exact ih ((1 : Int32) <<< (y7_4 &&& 31)) v5.1 (y7_4 + (1 : Int32)) hF _ _ hP hD hS _ (lv_sub hl [4, 5, 1, 2, 0] rfl)
        · have hF := oT c4 hF
          refine lv_goto (tgt := 72) hx hb dX3_nearest_26 (by decide) ?_
          refine lv_iinc (v := y7_4 + (1 : Int32)) (lv' := [(4, .int (y7_4 + (1 : Int32))), (0, .ref aC), (1, .int y7_1), (2, .int y7_2), (3, .int y7_3)]) hx hb dX3_nearest_72 hl (k := 4) rfl (by first | rfl | decide) (by decide) rfl (fun ls hl => ?_)
          refine lv_goto (tgt := 7) hx hb dX3_nearest_75 (by decide) ?_
          exact ih y7_2 y7_3 (y7_4 + (1 : Int32)) hF _ _ hP hD hS _ (lv_sub hl [1, 2, 3, 4, 0] rfl)
  rw [f_X3_nearest] at hF
  refine lv_iconst (v := (0 : Int32)) hx hb dX3_nearest_0 (by decide) ?_
  refine lv_istore_n (lv' := [(2, .int (0 : Int32)), (0, .ref aC), (1, .int p2)]) hx hb dX3_nearest_1 rfl hl (by decide) rfl (fun ls hl => ?_)
  refine lv_iconst (v := (0 : Int32)) hx hb dX3_nearest_2 (by decide) ?_
  refine lv_istore_n (lv' := [(3, .int (0 : Int32)), (2, .int (0 : Int32)), (0, .ref aC), (1, .int p2)]) hx hb dX3_nearest_3 rfl hl (by decide) rfl (fun ls hl => ?_)
  refine lv_iconst (v := (0 : Int32)) hx hb dX3_nearest_4 (by decide) ?_
  refine lv_istore (lv' := [(4, .int (0 : Int32)), (3, .int (0 : Int32)), (2, .int (0 : Int32)), (0, .ref aC), (1, .int p2)]) hx hb dX3_nearest_5 hl (by decide) rfl (fun ls hl => ?_)
  exact loop_7 p2 FU (0 : Int32) (0 : Int32) (0 : Int32) hF _ _ hP hD hS _ (lv_sub hl [3, 4, 2, 1, 0] rfl)
abbrev RM_X3_soFarOff : Room := { frames := 3, cells := 0, slots := 0, locals := 67 }
abbrev MC_X3_soFarOff : Nat := 0
abbrev MS_X3_soFarOff : Nat := 0
abbrev wf_X3_soFarOff (K : Nat → ClassId) (aC : Nat) (aCr : Nat) (row : Nat → Int32) (v : Int32 × Unit) : va_W := [(aC, .inr (0, [.ref aCr])), (aCr, .inl (K 0, 55, .inl row))]
set_option maxHeartbeats 4000000 in
set_option maxRecDepth 100000 in
theorem c_X3_soFarOff (l : Launch) (D : va_G) (K : Nat → ClassId) (aC : Nat) (aCr : Nat) (row : Nat → Int32) (p2 : Int32) (v : Int32 × Unit) (hF : f_X3_soFarOff row p2 = some v) (sz : Nat) :
    (Met l yX3_soFarOff wsX3_soFarOff RM_X3_soFarOff (PC D (TY K) [(aC, .inr (0, [.ref aCr])), (aCr, .inl (K 0, 55, .inl row))] [.ref aC, .int p2] sz) (QI D (TY K) (wf_X3_soFarOff K aC aCr row) v (va_A [(aC, .inr (0, [.ref aCr])), (aCr, .inl (K 0, 55, .inl row))] sz)) MC_X3_soFarOff MS_X3_soFarOff (va_A [(aC, .inr (0, [.ref aCr])), (aCr, .inl (K 0, 55, .inl row))] sz)) := by
  refine pro (Qf := fun A => QI D (TY K) (wf_X3_soFarOff K aC aCr row) v A) (cc := cX3_soFarOff) (maxL := 5) (ret := (some .int)) (by decide +kernel) rfl (Nat.le_of_ble_eq_true rfl) ?_
  intro p e s m args below meth c hx hb hr hts hown hlocks hml hini hK A hA hE hP hD hS ls hl
  have hown : s.vm.findClass RX3 = some m.cls := hown
  have hl : lv_has ls 5 [(0, .ref aC), (1, .int p2)] := hl
  have loop_11 : ∀ (y11_1 : Int32) (y11_2 : Int32) (n : Nat) (y11_3 : Int32) (y11_4 : Int32), f_X3_soFarOff_L11 row y11_1 y11_2 n y11_3 y11_4 = some v → ∀ (H : Heap) (locs : List Loc), va_P D vwC7 [(aC, .inr (0, [.ref aCr])), (aCr, .inl (K 0, 55, .inl row))] H → va_D A [(aC, .inr (0, [.ref aCr])), (aCr, .inl (K 0, 55, .inl row))] → va_S A s.heap H locs → ∀ ls : Array Slot, lv_has ls 5 [(0, .ref aC), (1, .int y11_1), (2, .int y11_2), (3, .int y11_3), (4, .int y11_4)] → W p l e RM_X3_soFarOff s m args below meth c H locs 0 0 (MQ below (QI D (TY K) (wf_X3_soFarOff K aC aCr row) v A) args s MC_X3_soFarOff MS_X3_soFarOff A) (F0 m 11 ls []) := by
    intro y11_1 y11_2 n
    induction n with
    | zero =>
      intro y11_3 y11_4 hF
      exact nomatch hF
    | succ n ih =>
      intro y11_3 y11_4 hF H locs hP hD hS ls hl
      rw [f_X3_soFarOff_L11.eq_2] at hF
      refine lv_iload hx hb dX3_soFarOff_11 (lv_at hl 4 rfl) ?_
      refine lv_aload_n hx hb dX3_soFarOff_13 rfl (lv_at hl 0 rfl) ?_
      refine lv_iconst (v := (0 : Int32)) hx hb dX3_soFarOff_14 (by decide) ?_
      obtain ⟨v2, hv2, hF⟩ := oB hF
      refine call_i (wr := []) (wn := [(aC, .inr (0, [.ref aCr])), (aCr, .inl (K 0, 55, .inl row))]) (va_runV (As := [.int (0 : Int32)]) (rest := [.int y11_4]) ⟨hx, hb, hml, hown, hts⟩ (c_X0_get l D K aC aCr row (0 : Int32) v2 hv2 H.size) (cwV 1 hts gX3_soFarOff_X0_get rfl rfl rfl (by decide +kernel) ⟨(Nat.le_of_ble_eq_true rfl), (Nat.le_of_ble_eq_true rfl)⟩) (prV hE hK hP hD hS hA [0, 1] rfl rfl 0 0 rfl rfl rfl) rfl rfl hl.1 rfl (lv_room (Nat.le_of_ble_eq_true rfl)) dX3_soFarOff_15 ⟨(Nat.le_of_ble_eq_true rfl), (Nat.le_of_ble_eq_true rfl)⟩) hP hD hS hA [0, 1] [] [0, 1] rfl rfl rfl (by decide) rfl rfl (fun H locs hP hD hS => ?_)
      refine lv_icmp_ge (tgt := 54) hx hb dX3_soFarOff_18 (by decide) (fun c3 => ?_) (fun c3 => ?_)
      · have hF := oT c3 hF
        refine lv_iload_n hx hb dX3_soFarOff_54 rfl (lv_at hl 3 rfl) ?_
        exact fin_i (u := (y11_3, ())) hF hx hb hr hlocks hK hP hD hS (Nat.le_of_ble_eq_true rfl) (Nat.le_of_ble_eq_true rfl) dX3_soFarOff_55
      · have hF := oF c3 hF
        refine lv_aload_n hx hb dX3_soFarOff_21 rfl (lv_at hl 0 rfl) ?_
        refine lv_iload hx hb dX3_soFarOff_22 (lv_at hl 4 rfl) ?_
        obtain ⟨v4, hv4, hF⟩ := oB hF
        refine call_i (wr := []) (wn := [(aC, .inr (0, [.ref aCr])), (aCr, .inl (K 0, 55, .inl row))]) (va_runS (As := [.ref aC, .int y11_4]) (rest := []) ⟨hx, hb, hml, hown, hts⟩ (c_X3_canWin l D K aC aCr row y11_4 v4 hv4 H.size) (va_cwS 2 hts gX3_soFarOff_X3_canWin rfl rfl rfl (by decide +kernel) ⟨(Nat.le_of_ble_eq_true rfl), (Nat.le_of_ble_eq_true rfl)⟩) (prS hE hK hP hD hS hA [0, 1] rfl rfl) rfl rfl hl.1 rfl (lv_room (Nat.le_of_ble_eq_true rfl)) dX3_soFarOff_24 ⟨(Nat.le_of_ble_eq_true rfl), (Nat.le_of_ble_eq_true rfl)⟩) hP hD hS hA [0, 1] [] [0, 1] rfl rfl rfl (by decide) rfl rfl (fun H locs hP hD hS => ?_)
        refine lv_if_eq (tgt := 48) hx hb dX3_soFarOff_27 (by decide) (fun c5 => ?_) (fun c5 => ?_)
        · have hF := oT c5 hF
          refine lv_iinc (v := y11_4 + (1 : Int32)) (lv' := [(4, .int (y11_4 + (1 : Int32))), (0, .ref aC), (1, .int y11_1), (2, .int y11_2), (3, .int y11_3)]) hx hb dX3_soFarOff_48 hl (k := 4) rfl (by first | rfl | decide) (by decide) rfl (fun ls hl => ?_)
          refine lv_goto (tgt := 11) hx hb dX3_soFarOff_51 (by decide) ?_
          exact ih y11_3 (y11_4 + (1 : Int32)) hF _ _ hP hD hS _ (lv_sub hl [1, 2, 3, 4, 0] rfl)
        · have hF := oF c5 hF
          refine lv_aload_n hx hb dX3_soFarOff_30 rfl (lv_at hl 0 rfl) ?_
          refine lv_iload hx hb dX3_soFarOff_31 (lv_at hl 4 rfl) ?_
          refine lv_iload_n hx hb dX3_soFarOff_33 rfl (lv_at hl 2 rfl) ?_
          obtain ⟨v6, hv6, hF⟩ := oB hF
          refine call_i (wr := []) (wn := [(aC, .inr (0, [.ref aCr])), (aCr, .inl (K 0, 55, .inl row))]) (va_runS (As := [.ref aC, .int y11_4, .int y11_2]) (rest := []) ⟨hx, hb, hml, hown, hts⟩ (c_X3_distance l D K aC aCr row y11_4 y11_2 v6 hv6 H.size) (va_cwS 3 hts gX3_soFarOff_X3_distance rfl rfl rfl (by decide +kernel) ⟨(Nat.le_of_ble_eq_true rfl), (Nat.le_of_ble_eq_true rfl)⟩) (prS hE hK hP hD hS hA [0, 1] rfl rfl) rfl rfl hl.1 rfl (lv_room (Nat.le_of_ble_eq_true rfl)) dX3_soFarOff_34 ⟨(Nat.le_of_ble_eq_true rfl), (Nat.le_of_ble_eq_true rfl)⟩) hP hD hS hA [0, 1] [] [0, 1] rfl rfl rfl (by decide) rfl rfl (fun H locs hP hD hS => ?_)
          refine lv_iload_n hx hb dX3_soFarOff_37 rfl (lv_at hl 1 rfl) ?_
          refine lv_icmp_ne (tgt := 48) hx hb dX3_soFarOff_38 (by decide) (fun c7 => ?_) (fun c7 => ?_)
          · have hF := oF c7 hF
            refine lv_iinc (v := y11_4 + (1 : Int32)) (lv' := [(4, .int (y11_4 + (1 : Int32))), (0, .ref aC), (1, .int y11_1), (2, .int y11_2), (3, .int y11_3)]) hx hb dX3_soFarOff_48 hl (k := 4) rfl (by first | rfl | decide) (by decide) rfl (fun ls hl => ?_)
            refine lv_goto (tgt := 11) hx hb dX3_soFarOff_51 (by decide) ?_
            exact ih y11_3 (y11_4 + (1 : Int32)) hF _ _ hP hD hS _ (lv_sub hl [1, 2, 3, 4, 0] rfl)
          · have hF := oT c7 hF
            refine lv_iload_n hx hb dX3_soFarOff_41 rfl (lv_at hl 3 rfl) ?_
            refine lv_iconst (v := (1 : Int32)) hx hb dX3_soFarOff_42 (by decide) ?_
            refine lv_iload hx hb dX3_soFarOff_43 (lv_at hl 4 rfl) ?_
            refine lv_ishl hx hb dX3_soFarOff_45 ?_
            refine lv_ior hx hb dX3_soFarOff_46 ?_
            refine lv_istore_n (lv' := [(3, .int (y11_3 ||| ((1 : Int32) <<< (y11_4 &&& 31)))), (0, .ref aC), (1, .int y11_1), (2, .int y11_2), (4, .int y11_4)]) hx hb dX3_soFarOff_47 rfl hl (by decide) rfl (fun ls hl => ?_)
            refine lv_iinc (v := y11_4 + (1 : Int32)) (lv' := [(4, .int (y11_4 + (1 : Int32))), (3, .int (y11_3 ||| ((1 : Int32) <<< (y11_4 &&& 31)))), (0, .ref aC), (1, .int y11_1), (2, .int y11_2)]) hx hb dX3_soFarOff_48 hl (k := 4) rfl (by first | rfl | decide) (by decide) rfl (fun ls hl => ?_)
            refine lv_goto (tgt := 11) hx hb dX3_soFarOff_51 (by decide) ?_
            exact ih (y11_3 ||| ((1 : Int32) <<< (y11_4 &&& 31))) (y11_4 + (1 : Int32)) hF _ _ hP hD hS _ (lv_sub hl [2, 3, 4, 1, 0] rfl)
  rw [f_X3_soFarOff] at hF
  refine lv_aload_n hx hb dX3_soFarOff_0 rfl (lv_at hl 0 rfl) ?_
  refine lv_iconst (v := (1 : Int32)) hx hb dX3_soFarOff_1 (by decide) ?_
  obtain ⟨v1, hv1, hF⟩ := oB hF
  refine call_i (wr := []) (wn := [(aC, .inr (0, [.ref aCr])), (aCr, .inl (K 0, 55, .inl row))]) (va_runV (As := [.int (1 : Int32)]) (rest := []) ⟨hx, hb, hml, hown, hts⟩ (c_X0_get l D K aC aCr row (1 : Int32) v1 hv1 s.heap.size) (cwV 1 hts gX3_soFarOff_X0_get rfl rfl rfl (by decide +kernel) ⟨(Nat.le_of_ble_eq_true rfl), (Nat.le_of_ble_eq_true rfl)⟩) (prV hE hK hP hD hS hA [0, 1] rfl rfl 0 0 rfl rfl rfl) rfl rfl hl.1 rfl (lv_room (Nat.le_of_ble_eq_true rfl)) dX3_soFarOff_2 ⟨(Nat.le_of_ble_eq_true rfl), (Nat.le_of_ble_eq_true rfl)⟩) hP hD hS hA [0, 1] [] [0, 1] rfl rfl rfl (by decide) rfl rfl (fun H locs hP hD hS => ?_)
  refine lv_istore_n (lv' := [(2, .int v1.1), (0, .ref aC), (1, .int p2)]) hx hb dX3_soFarOff_5 rfl hl (by decide) rfl (fun ls hl => ?_)
  refine lv_iconst (v := (0 : Int32)) hx hb dX3_soFarOff_6 (by decide) ?_
  refine lv_istore_n (lv' := [(3, .int (0 : Int32)), (2, .int v1.1), (0, .ref aC), (1, .int p2)]) hx hb dX3_soFarOff_7 rfl hl (by decide) rfl (fun ls hl => ?_)
  refine lv_iconst (v := (0 : Int32)) hx hb dX3_soFarOff_8 (by decide) ?_
  refine lv_istore (lv' := [(4, .int (0 : Int32)), (3, .int (0 : Int32)), (2, .int v1.1), (0, .ref aC), (1, .int p2)]) hx hb dX3_soFarOff_9 hl (by decide) rfl (fun ls hl => ?_)
  exact loop_11 p2 v1.1 FU (0 : Int32) (0 : Int32) hF _ _ hP hD hS _ (lv_sub hl [3, 4, 2, 1, 0] rfl)
abbrev RM_X3_nearestByDistances : Room := { frames := 4, cells := 0, slots := 0, locals := 91 }
abbrev MC_X3_nearestByDistances : Nat := 0
abbrev MS_X3_nearestByDistances : Nat := 0
abbrev wf_X3_nearestByDistances (K : Nat → ClassId) (aC : Nat) (aCr : Nat) (row : Nat → Int32) (v : Int32 × Unit) : va_W := [(aC, .inr (0, [.ref aCr])), (aCr, .inl (K 0, 55, .inl row))]
set_option maxHeartbeats 4000000 in
set_option maxRecDepth 100000 in
theorem c_X3_nearestByDistances (l : Launch) (D : va_G) (K : Nat → ClassId) (aC : Nat) (aCr : Nat) (row : Nat → Int32)  (v : Int32 × Unit) (hF : f_X3_nearestByDistances row = some v) (sz : Nat) :
    (Met l yX3_nearestByDistances wsX3_nearestByDistances RM_X3_nearestByDistances (PC D (TY K) [(aC, .inr (0, [.ref aCr])), (aCr, .inl (K 0, 55, .inl row))] [.ref aC] sz) (QI D (TY K) (wf_X3_nearestByDistances K aC aCr row) v (va_A [(aC, .inr (0, [.ref aCr])), (aCr, .inl (K 0, 55, .inl row))] sz)) MC_X3_nearestByDistances MS_X3_nearestByDistances (va_A [(aC, .inr (0, [.ref aCr])), (aCr, .inl (K 0, 55, .inl row))] sz)) := by
  refine pro (Qf := fun A => QI D (TY K) (wf_X3_nearestByDistances K aC aCr row) v A) (cc := cX3_nearestByDistances) (maxL := 3) (ret := (some .int)) (by decide +kernel) rfl (Nat.le_of_ble_eq_true rfl) ?_
  intro p e s m args below meth c hx hb hr hts hown hlocks hml hini hK A hA hE hP hD hS ls hl
  have hown : s.vm.findClass RX3 = some m.cls := hown
  have hl : lv_has ls 3 [(0, .ref aC)] := hl
  have loop_2 : ∀  (n : Nat) (y2_1 : Int32), f_X3_nearestByDistances_L2 row n y2_1 = some v → ∀ (H : Heap) (locs : List Loc), va_P D vwC7 [(aC, .inr (0, [.ref aCr])), (aCr, .inl (K 0, 55, .inl row))] H → va_D A [(aC, .inr (0, [.ref aCr])), (aCr, .inl (K 0, 55, .inl row))] → va_S A s.heap H locs → ∀ ls : Array Slot, lv_has ls 3 [(0, .ref aC), (1, .int y2_1)] → W p l e RM_X3_nearestByDistances s m args below meth c H locs 0 0 (MQ below (QI D (TY K) (wf_X3_nearestByDistances K aC aCr row) v A) args s MC_X3_nearestByDistances MS_X3_nearestByDistances A) (F0 m 2 ls []) := by
    intro  n
    induction n with
    | zero =>
      intro y2_1 hF
      exact nomatch hF
    | succ n ih =>
      intro y2_1 hF H locs hP hD hS ls hl
      rw [f_X3_nearestByDistances_L2.eq_2] at hF
      refine lv_iload_n hx hb dX3_nearestByDistances_2 rfl (lv_at hl 1 rfl) ?_
      refine lv_sipush (v := (400 : Int32)) hx hb dX3_nearestByDistances_3 (by decide) ?_
      refine lv_icmp_gt (tgt := 27) hx hb dX3_nearestByDistances_6 (by decide) (fun c1 => ?_) (fun c1 => ?_)
      · have hF := oT c1 hF
        refine lv_iconst (v := (0 : Int32)) hx hb dX3_nearestByDistances_27 (by decide) ?_
        exact fin_i (u := ((0 : Int32), ())) hF hx hb hr hlocks hK hP hD hS (Nat.le_of_ble_eq_true rfl) (Nat.le_of_ble_eq_true rfl) dX3_nearestByDistances_28
      · have hF := oF c1 hF
        refine lv_aload_n hx hb dX3_nearestByDistances_9 rfl (lv_at hl 0 rfl) ?_
        refine lv_iload_n hx hb dX3_nearestByDistances_10 rfl (lv_at hl 1 rfl) ?_
        obtain ⟨v2, hv2, hF⟩ := oB hF
        refine call_i (wr := []) (wn := [(aC, .inr (0, [.ref aCr])), (aCr, .inl (K 0, 55, .inl row))]) (va_runS (As := [.ref aC, .int y2_1]) (rest := []) ⟨hx, hb, hml, hown, hts⟩ (c_X3_soFarOff l D K aC aCr row y2_1 v2 hv2 H.size) (va_cwS 2 hts gX3_nearestByDistances_X3_soFarOff rfl rfl rfl (by decide +kernel) ⟨(Nat.le_of_ble_eq_true rfl), (Nat.le_of_ble_eq_true rfl)⟩) (prS hE hK hP hD hS hA [0, 1] rfl rfl) rfl rfl hl.1 rfl (lv_room (Nat.le_of_ble_eq_true rfl)) dX3_nearestByDistances_11 ⟨(Nat.le_of_ble_eq_true rfl), (Nat.le_of_ble_eq_true rfl)⟩) hP hD hS hA [0, 1] [] [0, 1] rfl rfl rfl (by decide) rfl rfl (fun H locs hP hD hS => ?_)
        refine lv_istore_n (lv' := [(2, .int v2.1), (0, .ref aC), (1, .int y2_1)]) hx hb dX3_nearestByDistances_14 rfl hl (by decide) rfl (fun ls hl => ?_)
        refine lv_iload_n hx hb dX3_nearestByDistances_15 rfl (lv_at hl 0 rfl) ?_
        refine lv_if_eq (tgt := 21) hx hb dX3_nearestByDistances_16 (by decide) (fun c3 => ?_) (fun c3 => ?_)
        · have hF := oT c3 hF
          refine lv_iinc (v := y2_1 + (1 : Int32)) (lv' := [(1, .int (y2_1 + (1 : Int32))), (2, .int v2.1), (0, .ref aC)]) hx hb dX3_nearestByDistances_21 hl (k := 2) rfl (by first | rfl | decide) (by decide) rfl (fun ls hl => ?_)
          refine lv_goto (tgt := 2) hx hb dX3_nearestByDistances_24 (by decide) ?_
          exact ih (y2_1 + (1 : Int32)) hF _ _ hP hD hS _ (lv_sub hl [2, 0] rfl)
        · have hF := oF c3 hF
          refine lv_iload_n hx hb dX3_nearestByDistances_19 rfl (lv_at hl 0 rfl) ?_
          exact fin_i (u := (v2.1, ())) hF hx hb hr hlocks hK hP hD hS (Nat.le_of_ble_eq_true rfl) (Nat.le_of_ble_eq_true rfl) dX3_nearestByDistances_20
  rw [f_X3_nearestByDistances] at hF
  refine lv_iconst (v := (0 : Int32)) hx hb dX3_nearestByDistances_0 (by decide) ?_
  refine lv_istore_n (lv' := [(1, .int (0 : Int32)), (0, .ref aC)]) hx hb dX3_nearestByDistances_1 rfl hl (by decide) rfl (fun ls hl => ?_)
  exact loop_2  FU (0 : Int32) hF _ _ hP hD hS _ (lv_sub hl [1, 0] rfl)
abbrev RM_X3_nearestBehind : Room := { frames := 4, cells := 0, slots := 0, locals := 92 }
abbrev MC_X3_nearestBehind : Nat := 0
abbrev MS_X3_nearestBehind : Nat := 0
abbrev wf_X3_nearestBehind (K : Nat → ClassId) (aC : Nat) (aCr : Nat) (row : Nat → Int32) (v : Int32 × Unit) : va_W := [(aC, .inr (0, [.ref aCr])), (aCr, .inl (K 0, 55, .inl row))]
set_option maxHeartbeats 4000000 in
set_option maxRecDepth 100000 in
theorem c_X3_nearestBehind (l : Launch) (D : va_G) (K : Nat → ClassId) (aC : Nat) (aCr : Nat) (row : Nat → Int32) (p2 : Int32) (v : Int32 × Unit) (hF : f_X3_nearestBehind row p2 = some v) (sz : Nat) :
    (Met l yX3_nearestBehind wsX3_nearestBehind RM_X3_nearestBehind (PC D (TY K) [(aC, .inr (0, [.ref aCr])), (aCr, .inl (K 0, 55, .inl row))] [.ref aC, .int p2] sz) (QI D (TY K) (wf_X3_nearestBehind K aC aCr row) v (va_A [(aC, .inr (0, [.ref aCr])), (aCr, .inl (K 0, 55, .inl row))] sz)) MC_X3_nearestBehind MS_X3_nearestBehind (va_A [(aC, .inr (0, [.ref aCr])), (aCr, .inl (K 0, 55, .inl row))] sz)) := by
  refine pro (Qf := fun A => QI D (TY K) (wf_X3_nearestBehind K aC aCr row) v A) (cc := cX3_nearestBehind) (maxL := 3) (ret := (some .int)) (by decide +kernel) rfl (Nat.le_of_ble_eq_true rfl) ?_
  intro p e s m args below meth c hx hb hr hts hown hlocks hml hini hK A hA hE hP hD hS ls hl
  have hown : s.vm.findClass RX3 = some m.cls := hown
  have hl : lv_has ls 3 [(0, .ref aC), (1, .int p2)] := hl
  rw [f_X3_nearestBehind] at hF
  refine lv_aload_n hx hb dX3_nearestBehind_0 rfl (lv_at hl 0 rfl) ?_
  refine lv_iconst (v := (1 : Int32)) hx hb dX3_nearestBehind_1 (by decide) ?_
  obtain ⟨v1, hv1, hF⟩ := oB hF
  refine call_i (wr := []) (wn := [(aC, .inr (0, [.ref aCr])), (aCr, .inl (K 0, 55, .inl row))]) (va_runV (As := [.int (1 : Int32)]) (rest := []) ⟨hx, hb, hml, hown, hts⟩ (c_X0_get l D K aC aCr row (1 : Int32) v1 hv1 s.heap.size) (cwV 1 hts gX3_nearestBehind_X0_get rfl rfl rfl (by decide +kernel) ⟨(Nat.le_of_ble_eq_true rfl), (Nat.le_of_ble_eq_true rfl)⟩) (prV hE hK hP hD hS hA [0, 1] rfl rfl 0 0 rfl rfl rfl) rfl rfl hl.1 rfl (lv_room (Nat.le_of_ble_eq_true rfl)) dX3_nearestBehind_2 ⟨(Nat.le_of_ble_eq_true rfl), (Nat.le_of_ble_eq_true rfl)⟩) hP hD hS hA [0, 1] [] [0, 1] rfl rfl rfl (by decide) rfl rfl (fun H locs hP hD hS => ?_)
  refine lv_iload_n hx hb dX3_nearestBehind_5 rfl (lv_at hl 1 rfl) ?_
  refine lv_iadd hx hb dX3_nearestBehind_6 ?_
  refine lv_istore_n (lv' := [(2, .int (v1.1 + p2)), (0, .ref aC), (1, .int p2)]) hx hb dX3_nearestBehind_7 rfl hl (by decide) rfl (fun ls hl => ?_)
  refine lv_aload_n hx hb dX3_nearestBehind_8 rfl (lv_at hl 1 rfl) ?_
  refine lv_iload_n hx hb dX3_nearestBehind_9 rfl (lv_at hl 0 rfl) ?_
  refine lv_sipush (v := (900 : Int32)) hx hb dX3_nearestBehind_10 (by decide) ?_
  refine lv_sipush (v := (1100 : Int32)) hx hb dX3_nearestBehind_13 (by decide) ?_
  obtain ⟨v2, hv2, hF⟩ := oB hF
  refine call_i (wr := [(aC, .inr (0, [.ref aCr])), (aCr, .inl (K 0, 55, .inl row))]) (wn := [(aC, .inr (0, [.ref aCr])), (aCr, .inl (K 0, 55, .inl row))]) (va_runSN (As := [.int (v1.1 + p2), .int (900 : Int32), .int (1100 : Int32)]) (rest := [.ref aC]) ⟨hx, hb, hml, hown, hts⟩ (c_X7_held l D K (v1.1 + p2) (900 : Int32) (1100 : Int32) v2 hv2 H.size) ⟨va_cnB 3 hts gX3_nearestBehind_X7_held_n48 rfl rfl rfl (hE.2.2.1 _ (List.mem_of_getElem? (i := 9) rfl)) (hts (.initialized RX7) (List.mem_of_getElem? (i := 8) rfl)) (by decide +kernel) ⟨(Nat.le_of_ble_eq_true rfl), (Nat.le_of_ble_eq_true rfl)⟩, (hts (.static yX7_held) (List.mem_of_getElem? (i := 7) rfl)), trivial⟩ (prS hE hK hP hD hS hA [] rfl rfl) rfl rfl hl.1 rfl (lv_room (Nat.le_of_ble_eq_true rfl)) dX3_nearestBehind_16 ⟨(Nat.le_of_ble_eq_true rfl), (Nat.le_of_ble_eq_true rfl)⟩) hP hD hS hA [] [0, 1] [0, 1] rfl rfl rfl (by decide) rfl rfl (fun H locs hP hD hS => ?_)
  obtain ⟨v3, hv3, hF⟩ := oB hF
  refine call_i (wr := []) (wn := [(aC, .inr (0, [.ref aCr])), (aCr, .inl (K 0, 55, .inl row))]) (va_runS (As := [.ref aC, .int v2.1]) (rest := []) ⟨hx, hb, hml, hown, hts⟩ (c_X3_nearest l D K aC aCr row v2.1 v3 hv3 H.size) (va_cwS 2 hts gX3_nearestBehind_X3_nearest rfl rfl rfl (by decide +kernel) ⟨(Nat.le_of_ble_eq_true rfl), (Nat.le_of_ble_eq_true rfl)⟩) (prS hE hK hP hD hS hA [0, 1] rfl rfl) rfl rfl hl.1 rfl (lv_room (Nat.le_of_ble_eq_true rfl)) dX3_nearestBehind_19 ⟨(Nat.le_of_ble_eq_true rfl), (Nat.le_of_ble_eq_true rfl)⟩) hP hD hS hA [0, 1] [] [0, 1] rfl rfl rfl (by decide) rfl rfl (fun H locs hP hD hS => ?_)
  exact fin_i (u := (v3.1, ())) hF hx hb hr hlocks hK hP hD hS (Nat.le_of_ble_eq_true rfl) (Nat.le_of_ble_eq_true rfl) dX3_nearestBehind_22
abbrev RM_X3_winsAloneBehind : Room := { frames := 5, cells := 0, slots := 0, locals := 114 }
abbrev MC_X3_winsAloneBehind : Nat := 0
abbrev MS_X3_winsAloneBehind : Nat := 0
abbrev wf_X3_winsAloneBehind (K : Nat → ClassId) (aC : Nat) (aCr : Nat) (row : Nat → Int32) (v : Int32 × Unit) : va_W := [(aC, .inr (0, [.ref aCr])), (aCr, .inl (K 0, 55, .inl row))]
set_option maxHeartbeats 4000000 in
set_option maxRecDepth 100000 in
theorem c_X3_winsAloneBehind (l : Launch) (D : va_G) (K : Nat → ClassId) (aC : Nat) (aCr : Nat) (row : Nat → Int32) (p2 : Int32) (p3 : Int32) (v : Int32 × Unit) (hF : f_X3_winsAloneBehind row p2 p3 = some v) (sz : Nat) :
    (Met l yX3_winsAloneBehind wsX3_winsAloneBehind RM_X3_winsAloneBehind (PC D (TY K) [(aC, .inr (0, [.ref aCr])), (aCr, .inl (K 0, 55, .inl row))] [.ref aC, .int p2, .int p3] sz) (QI D (TY K) (wf_X3_winsAloneBehind K aC aCr row) v (va_A [(aC, .inr (0, [.ref aCr])), (aCr, .inl (K 0, 55, .inl row))] sz)) MC_X3_winsAloneBehind MS_X3_winsAloneBehind (va_A [(aC, .inr (0, [.ref aCr])), (aCr, .inl (K 0, 55, .inl row))] sz)) := by
  refine pro (Qf := fun A => QI D (TY K) (wf_X3_winsAloneBehind K aC aCr row) v A) (cc := cX3_winsAloneBehind) (maxL := 3) (ret := (some .boolean)) (by decide +kernel) rfl (Nat.le_of_ble_eq_true rfl) ?_
  intro p e s m args below meth c hx hb hr hts hown hlocks hml hini hK A hA hE hP hD hS ls hl
  have hown : s.vm.findClass RX3 = some m.cls := hown
  have hl : lv_has ls 3 [(0, .ref aC), (1, .int p2), (2, .int p3)] := hl
  rw [f_X3_winsAloneBehind] at hF
  refine lv_aload_n hx hb dX3_winsAloneBehind_0 rfl (lv_at hl 0 rfl) ?_
  refine lv_iload_n hx hb dX3_winsAloneBehind_1 rfl (lv_at hl 2 rfl) ?_
  obtain ⟨v1, hv1, hF⟩ := oB hF
  refine call_i (wr := []) (wn := [(aC, .inr (0, [.ref aCr])), (aCr, .inl (K 0, 55, .inl row))]) (va_runS (As := [.ref aC, .int p3]) (rest := []) ⟨hx, hb, hml, hown, hts⟩ (c_X3_nearestBehind l D K aC aCr row p3 v1 hv1 s.heap.size) (va_cwS 2 hts gX3_winsAloneBehind_X3_nearestBehind rfl rfl rfl (by decide +kernel) ⟨(Nat.le_of_ble_eq_true rfl), (Nat.le_of_ble_eq_true rfl)⟩) (prS hE hK hP hD hS hA [0, 1] rfl rfl) rfl rfl hl.1 rfl (lv_room (Nat.le_of_ble_eq_true rfl)) dX3_winsAloneBehind_2 ⟨(Nat.le_of_ble_eq_true rfl), (Nat.le_of_ble_eq_true rfl)⟩) hP hD hS hA [0, 1] [] [0, 1] rfl rfl rfl (by decide) rfl rfl (fun H locs hP hD hS => ?_)
  refine lv_iconst (v := (1 : Int32)) hx hb dX3_winsAloneBehind_5 (by decide) ?_
  refine lv_iload_n hx hb dX3_winsAloneBehind_6 rfl (lv_at hl 1 rfl) ?_
  refine lv_ishl hx hb dX3_winsAloneBehind_7 ?_
  refine lv_icmp_ne (tgt := 15) hx hb dX3_winsAloneBehind_8 (by decide) (fun c2 => ?_) (fun c2 => ?_)
  · have hF := oF c2 hF
    refine lv_iconst (v := (0 : Int32)) hx hb dX3_winsAloneBehind_15 (by decide) ?_
    exact fin_z (u := ((0 : Int32), ())) hF (okN_n (ty := .boolean) (x := (0 : Int32)) (by decide)) hx hb hr hlocks hK hP hD hS (Nat.le_of_ble_eq_true rfl) (Nat.le_of_ble_eq_true rfl) dX3_winsAloneBehind_16
  · have hF := oT c2 hF
    refine lv_iconst (v := (1 : Int32)) hx hb dX3_winsAloneBehind_11 (by decide) ?_
    refine lv_goto (tgt := 16) hx hb dX3_winsAloneBehind_12 (by decide) ?_
    exact fin_z (u := ((1 : Int32), ())) hF (okN_n (ty := .boolean) (x := (1 : Int32)) (by decide)) hx hb hr hlocks hK hP hD hS (Nat.le_of_ble_eq_true rfl) (Nat.le_of_ble_eq_true rfl) dX3_winsAloneBehind_16
abbrev RM_X3_shareOf : Room := { frames := 1, cells := 0, slots := 0, locals := 21 }
abbrev MC_X3_shareOf : Nat := 0
abbrev MS_X3_shareOf : Nat := 0
abbrev wf_X3_shareOf (K : Nat → ClassId) (aC : Nat) (aCr : Nat) (row : Nat → Int32) (v : Int32 × Unit) : va_W := [(aC, .inr (0, [.ref aCr])), (aCr, .inl (K 0, 55, .inl row))]
set_option maxHeartbeats 4000000 in
set_option maxRecDepth 100000 in
theorem c_X3_shareOf (l : Launch) (D : va_G) (K : Nat → ClassId) (aC : Nat) (aCr : Nat) (row : Nat → Int32) (p2 : Int32) (v : Int32 × Unit) (hF : f_X3_shareOf row p2 = some v) (sz : Nat) :
    (Met l yX3_shareOf wsX3_shareOf RM_X3_shareOf (PC D (TY K) [(aC, .inr (0, [.ref aCr])), (aCr, .inl (K 0, 55, .inl row))] [.ref aC, .int p2] sz) (QI D (TY K) (wf_X3_shareOf K aC aCr row) v (va_A [(aC, .inr (0, [.ref aCr])), (aCr, .inl (K 0, 55, .inl row))] sz)) MC_X3_shareOf MS_X3_shareOf (va_A [(aC, .inr (0, [.ref aCr])), (aCr, .inl (K 0, 55, .inl row))] sz)) := by
  refine pro (Qf := fun A => QI D (TY K) (wf_X3_shareOf K aC aCr row) v A) (cc := cX3_shareOf) (maxL := 3) (ret := (some .int)) (by decide +kernel) rfl (Nat.le_of_ble_eq_true rfl) ?_
  intro p e s m args below meth c hx hb hr hts hown hlocks hml hini hK A hA hE hP hD hS ls hl
  have hown : s.vm.findClass RX3 = some m.cls := hown
  have hl : lv_has ls 3 [(0, .ref aC), (1, .int p2)] := hl
  rw [f_X3_shareOf] at hF
  refine lv_iload_n hx hb dX3_shareOf_0 rfl (lv_at hl 1 rfl) ?_
  obtain ⟨v1, hv1, hF⟩ := oB hF
  refine call_i (wr := [(aC, .inr (0, [.ref aCr])), (aCr, .inl (K 0, 55, .inl row))]) (wn := [(aC, .inr (0, [.ref aCr])), (aCr, .inl (K 0, 55, .inl row))]) (va_runS (As := [.int p2]) (rest := []) ⟨hx, hb, hml, hown, hts⟩ (c_J6_bitCount_0f7a4 l D K p2 v1 hv1 s.heap.size) (va_cwS 1 hts gX3_shareOf_J6_bitCount_0f7a4 rfl rfl rfl (by decide +kernel) ⟨(Nat.le_of_ble_eq_true rfl), (Nat.le_of_ble_eq_true rfl)⟩) (prS hE hK hP hD hS hA [] rfl rfl) rfl rfl hl.1 rfl (lv_room (Nat.le_of_ble_eq_true rfl)) dX3_shareOf_1 ⟨(Nat.le_of_ble_eq_true rfl), (Nat.le_of_ble_eq_true rfl)⟩) hP hD hS hA [] [0, 1] [0, 1] rfl rfl rfl (by decide) rfl rfl (fun H locs hP hD hS => ?_)
  refine lv_istore_n (lv' := [(2, .int v1.1), (0, .ref aC), (1, .int p2)]) hx hb dX3_shareOf_4 rfl hl (by decide) rfl (fun ls hl => ?_)
  refine lv_iload_n hx hb dX3_shareOf_5 rfl (lv_at hl 0 rfl) ?_
  refine lv_if_ne (tgt := 13) hx hb dX3_shareOf_6 (by decide) (fun c2 => ?_) (fun c2 => ?_)
  · have hF := oF c2 hF
    refine lv_aload_n hx hb dX3_shareOf_13 rfl (lv_at hl 1 rfl) ?_
    refine lv_bipush (v := (7 : Int32)) hx hb dX3_shareOf_14 (by decide) ?_
    obtain ⟨v3, hv3, hF⟩ := oB hF
    refine call_i (wr := []) (wn := [(aC, .inr (0, [.ref aCr])), (aCr, .inl (K 0, 55, .inl row))]) (va_runV (As := [.int (7 : Int32)]) (rest := []) ⟨hx, hb, hml, hown, hts⟩ (c_X0_get l D K aC aCr row (7 : Int32) v3 hv3 H.size) (cwV 1 hts gX3_shareOf_X0_get rfl rfl rfl (by decide +kernel) ⟨(Nat.le_of_ble_eq_true rfl), (Nat.le_of_ble_eq_true rfl)⟩) (prV hE hK hP hD hS hA [0, 1] rfl rfl 0 0 rfl rfl rfl) rfl rfl hl.1 rfl (lv_room (Nat.le_of_ble_eq_true rfl)) dX3_shareOf_16 ⟨(Nat.le_of_ble_eq_true rfl), (Nat.le_of_ble_eq_true rfl)⟩) hP hD hS hA [0, 1] [] [0, 1] rfl rfl rfl (by decide) rfl rfl (fun H locs hP hD hS => ?_)
    refine lv_iload_n hx hb dX3_shareOf_19 rfl (lv_at hl 0 rfl) ?_
    obtain ⟨g4, hF⟩ := oG hF
    refine lv_idiv hx hb dX3_shareOf_20 (nz_ne g4) ?_
    exact fin_i (u := (v3.1 / v1.1, ())) hF hx hb hr hlocks hK hP hD hS (Nat.le_of_ble_eq_true rfl) (Nat.le_of_ble_eq_true rfl) dX3_shareOf_21
  · have hF := oT c2 hF
    refine lv_iconst (v := (0 : Int32)) hx hb dX3_shareOf_9 (by decide) ?_
    refine lv_goto (tgt := 21) hx hb dX3_shareOf_10 (by decide) ?_
    exact fin_i (u := ((0 : Int32), ())) hF hx hb hr hlocks hK hP hD hS (Nat.le_of_ble_eq_true rfl) (Nat.le_of_ble_eq_true rfl) dX3_shareOf_21
abbrev RM_X5_measured : Room := { frames := 2, cells := 0, slots := 0, locals := 45 }
abbrev MC_X5_measured : Nat := 0
abbrev MS_X5_measured : Nat := 0
abbrev wf_X5_measured (K : Nat → ClassId) (aC : Nat) (aCr : Nat) (row : Nat → Int32) (v : Int32 × Unit) : va_W := [(aC, .inr (0, [.ref aCr])), (aCr, .inl (K 0, 55, .inl row))]
set_option maxHeartbeats 4000000 in
set_option maxRecDepth 100000 in
theorem c_X5_measured (l : Launch) (D : va_G) (K : Nat → ClassId) (aC : Nat) (aCr : Nat) (row : Nat → Int32) (p2 : Int32) (p3 : Int32) (v : Int32 × Unit) (hF : f_X5_measured row p2 p3 = some v) (sz : Nat) :
    (Met l yX5_measured wsX5_measured RM_X5_measured (PC D (TY K) [(aC, .inr (0, [.ref aCr])), (aCr, .inl (K 0, 55, .inl row))] [.ref aC, .int p2, .int p3] sz) (QI D (TY K) (wf_X5_measured K aC aCr row) v (va_A [(aC, .inr (0, [.ref aCr])), (aCr, .inl (K 0, 55, .inl row))] sz)) MC_X5_measured MS_X5_measured (va_A [(aC, .inr (0, [.ref aCr])), (aCr, .inl (K 0, 55, .inl row))] sz)) := by
  refine pro (Qf := fun A => QI D (TY K) (wf_X5_measured K aC aCr row) v A) (cc := cX5_measured) (maxL := 3) (ret := (some .int)) (by decide +kernel) rfl (Nat.le_of_ble_eq_true rfl) ?_
  intro p e s m args below meth c hx hb hr hts hown hlocks hml hini hK A hA hE hP hD hS ls hl
  have hown : s.vm.findClass RX5 = some m.cls := hown
  have hl : lv_has ls 3 [(0, .ref aC), (1, .int p2), (2, .int p3)] := hl
  rw [f_X5_measured] at hF
  refine lv_iload_n hx hb dX5_measured_0 rfl (lv_at hl 1 rfl) ?_
  by_cases c1 : p2 = (0 : Int32)
  · have hF := oT c1 hF
    refine lv_tableIn (off := 27) (tgt := 28) hx hb dX5_measured_1 (by rw [c1]; decide) (by rw [c1]; decide) (by rw [c1]; rfl) (by decide) ?_
    refine lv_aload_n hx hb dX5_measured_28 rfl (lv_at hl 0 rfl) ?_
    refine lv_iload_n hx hb dX5_measured_29 rfl (lv_at hl 2 rfl) ?_
    refine lv_iconst (v := (0 : Int32)) hx hb dX5_measured_30 (by decide) ?_
    obtain ⟨v2, hv2, hF⟩ := oB hF
    refine call_i (wr := []) (wn := [(aC, .inr (0, [.ref aCr])), (aCr, .inl (K 0, 55, .inl row))]) (va_runV (As := [.int p3, .int (0 : Int32)]) (rest := []) ⟨hx, hb, hml, hown, hts⟩ (c_X0_of l D K aC aCr row p3 (0 : Int32) v2 hv2 s.heap.size) (cwV 2 hts gX5_measured_X0_of rfl rfl rfl (by decide +kernel) ⟨(Nat.le_of_ble_eq_true rfl), (Nat.le_of_ble_eq_true rfl)⟩) (prV hE hK hP hD hS hA [0, 1] rfl rfl 0 0 rfl rfl rfl) rfl rfl hl.1 rfl (lv_room (Nat.le_of_ble_eq_true rfl)) dX5_measured_31 ⟨(Nat.le_of_ble_eq_true rfl), (Nat.le_of_ble_eq_true rfl)⟩) hP hD hS hA [0, 1] [] [0, 1] rfl rfl rfl (by decide) rfl rfl (fun H locs hP hD hS => ?_)
    exact fin_i (u := (v2.1, ())) hF hx hb hr hlocks hK hP hD hS (Nat.le_of_ble_eq_true rfl) (Nat.le_of_ble_eq_true rfl) dX5_measured_34
  have hF := oF c1 hF
  by_cases c3 : p2 = (1 : Int32)
  · have hF := oT c3 hF
    refine lv_tableIn (off := 34) (tgt := 35) hx hb dX5_measured_1 (by rw [c3]; decide) (by rw [c3]; decide) (by rw [c3]; rfl) (by decide) ?_
    refine lv_aload_n hx hb dX5_measured_35 rfl (lv_at hl 0 rfl) ?_
    refine lv_iload_n hx hb dX5_measured_36 rfl (lv_at hl 2 rfl) ?_
    refine lv_iconst (v := (1 : Int32)) hx hb dX5_measured_37 (by decide) ?_
    obtain ⟨v4, hv4, hF⟩ := oB hF
    refine call_i (wr := []) (wn := [(aC, .inr (0, [.ref aCr])), (aCr, .inl (K 0, 55, .inl row))]) (va_runV (As := [.int p3, .int (1 : Int32)]) (rest := []) ⟨hx, hb, hml, hown, hts⟩ (c_X0_of l D K aC aCr row p3 (1 : Int32) v4 hv4 s.heap.size) (cwV 2 hts gX5_measured_X0_of rfl rfl rfl (by decide +kernel) ⟨(Nat.le_of_ble_eq_true rfl), (Nat.le_of_ble_eq_true rfl)⟩) (prV hE hK hP hD hS hA [0, 1] rfl rfl 0 0 rfl rfl rfl) rfl rfl hl.1 rfl (lv_room (Nat.le_of_ble_eq_true rfl)) dX5_measured_38 ⟨(Nat.le_of_ble_eq_true rfl), (Nat.le_of_ble_eq_true rfl)⟩) hP hD hS hA [0, 1] [] [0, 1] rfl rfl rfl (by decide) rfl rfl (fun H locs hP hD hS => ?_)
    exact fin_i (u := (v4.1, ())) hF hx hb hr hlocks hK hP hD hS (Nat.le_of_ble_eq_true rfl) (Nat.le_of_ble_eq_true rfl) dX5_measured_41
  have hF := oF c3 hF
  by_cases c5 : p2 = (2 : Int32)
  · have hF := oT c5 hF
    refine lv_tableIn (off := 41) (tgt := 42) hx hb dX5_measured_1 (by rw [c5]; decide) (by rw [c5]; decide) (by rw [c5]; rfl) (by decide) ?_
    refine lv_aload_n hx hb dX5_measured_42 rfl (lv_at hl 0 rfl) ?_
    refine lv_iload_n hx hb dX5_measured_43 rfl (lv_at hl 2 rfl) ?_
    refine lv_aload_n hx hb dX5_measured_44 rfl (lv_at hl 0 rfl) ?_
    refine lv_iconst (v := (1 : Int32)) hx hb dX5_measured_45 (by decide) ?_
    obtain ⟨v6, hv6, hF⟩ := oB hF
    refine call_i (wr := []) (wn := [(aC, .inr (0, [.ref aCr])), (aCr, .inl (K 0, 55, .inl row))]) (va_runV (As := [.int (1 : Int32)]) (rest := [.int p3, .ref aC]) ⟨hx, hb, hml, hown, hts⟩ (c_X0_get l D K aC aCr row (1 : Int32) v6 hv6 s.heap.size) (cwV 1 hts gX5_measured_X0_get rfl rfl rfl (by decide +kernel) ⟨(Nat.le_of_ble_eq_true rfl), (Nat.le_of_ble_eq_true rfl)⟩) (prV hE hK hP hD hS hA [0, 1] rfl rfl 0 0 rfl rfl rfl) rfl rfl hl.1 rfl (lv_room (Nat.le_of_ble_eq_true rfl)) dX5_measured_46 ⟨(Nat.le_of_ble_eq_true rfl), (Nat.le_of_ble_eq_true rfl)⟩) hP hD hS hA [0, 1] [] [0, 1] rfl rfl rfl (by decide) rfl rfl (fun H locs hP hD hS => ?_)
    obtain ⟨v7, hv7, hF⟩ := oB hF
    refine call_i (wr := []) (wn := [(aC, .inr (0, [.ref aCr])), (aCr, .inl (K 0, 55, .inl row))]) (va_runS (As := [.ref aC, .int p3, .int v6.1]) (rest := []) ⟨hx, hb, hml, hown, hts⟩ (c_X3_shown l D K aC aCr row p3 v6.1 v7 hv7 H.size) (va_cwS 3 hts gX5_measured_X3_shown rfl rfl rfl (by decide +kernel) ⟨(Nat.le_of_ble_eq_true rfl), (Nat.le_of_ble_eq_true rfl)⟩) (prS hE hK hP hD hS hA [0, 1] rfl rfl) rfl rfl hl.1 rfl (lv_room (Nat.le_of_ble_eq_true rfl)) dX5_measured_49 ⟨(Nat.le_of_ble_eq_true rfl), (Nat.le_of_ble_eq_true rfl)⟩) hP hD hS hA [0, 1] [] [0, 1] rfl rfl rfl (by decide) rfl rfl (fun H locs hP hD hS => ?_)
    exact fin_i (u := (v7.1, ())) hF hx hb hr hlocks hK hP hD hS (Nat.le_of_ble_eq_true rfl) (Nat.le_of_ble_eq_true rfl) dX5_measured_52
  have hF := oF c5 hF
  refine tsw_d (ks := ([0, 1, 2] : List Int)) (tgt := 53) hx hb dX5_measured_1 (by decide) (by decide) (List.forall_mem_cons.mpr ⟨lv_neT c1 rfl, List.forall_mem_cons.mpr ⟨lv_neT c3 rfl, List.forall_mem_cons.mpr ⟨lv_neT c5 rfl, fun _ h9 => absurd h9 List.not_mem_nil⟩⟩⟩) (by decide) ?_
  refine lv_aload_n hx hb dX5_measured_53 rfl (lv_at hl 0 rfl) ?_
  refine lv_iload_n hx hb dX5_measured_54 rfl (lv_at hl 2 rfl) ?_
  refine lv_bipush (v := (6 : Int32)) hx hb dX5_measured_55 (by decide) ?_
  obtain ⟨v8, hv8, hF⟩ := oB hF
  refine call_i (wr := []) (wn := [(aC, .inr (0, [.ref aCr])), (aCr, .inl (K 0, 55, .inl row))]) (va_runV (As := [.int p3, .int (6 : Int32)]) (rest := []) ⟨hx, hb, hml, hown, hts⟩ (c_X0_of l D K aC aCr row p3 (6 : Int32) v8 hv8 s.heap.size) (cwV 2 hts gX5_measured_X0_of rfl rfl rfl (by decide +kernel) ⟨(Nat.le_of_ble_eq_true rfl), (Nat.le_of_ble_eq_true rfl)⟩) (prV hE hK hP hD hS hA [0, 1] rfl rfl 0 0 rfl rfl rfl) rfl rfl hl.1 rfl (lv_room (Nat.le_of_ble_eq_true rfl)) dX5_measured_57 ⟨(Nat.le_of_ble_eq_true rfl), (Nat.le_of_ble_eq_true rfl)⟩) hP hD hS hA [0, 1] [] [0, 1] rfl rfl rfl (by decide) rfl rfl (fun H locs hP hD hS => ?_)
  exact fin_i (u := (v8.1, ())) hF hx hb hr hlocks hK hP hD hS (Nat.le_of_ble_eq_true rfl) (Nat.le_of_ble_eq_true rfl) dX5_measured_60
abbrev RM_X5_placeOf : Room := { frames := 3, cells := 0, slots := 0, locals := 67 }
abbrev MC_X5_placeOf : Nat := 0
abbrev MS_X5_placeOf : Nat := 0
abbrev wf_X5_placeOf (K : Nat → ClassId) (aC : Nat) (aCr : Nat) (row : Nat → Int32) (v : Int32 × Unit) : va_W := [(aC, .inr (0, [.ref aCr])), (aCr, .inl (K 0, 55, .inl row))]
set_option maxHeartbeats 4000000 in
set_option maxRecDepth 100000 in
theorem c_X5_placeOf (l : Launch) (D : va_G) (K : Nat → ClassId) (aC : Nat) (aCr : Nat) (row : Nat → Int32) (p2 : Int32) (p3 : Int32) (v : Int32 × Unit) (hF : f_X5_placeOf row p2 p3 = some v) (sz : Nat) :
    (Met l yX5_placeOf wsX5_placeOf RM_X5_placeOf (PC D (TY K) [(aC, .inr (0, [.ref aCr])), (aCr, .inl (K 0, 55, .inl row))] [.ref aC, .int p2, .int p3] sz) (QI D (TY K) (wf_X5_placeOf K aC aCr row) v (va_A [(aC, .inr (0, [.ref aCr])), (aCr, .inl (K 0, 55, .inl row))] sz)) MC_X5_placeOf MS_X5_placeOf (va_A [(aC, .inr (0, [.ref aCr])), (aCr, .inl (K 0, 55, .inl row))] sz)) := by
  refine pro (Qf := fun A => QI D (TY K) (wf_X5_placeOf K aC aCr row) v A) (cc := cX5_placeOf) (maxL := 7) (ret := (some .int)) (by decide +kernel) rfl (Nat.le_of_ble_eq_true rfl) ?_
  intro p e s m args below meth c hx hb hr hts hown hlocks hml hini hK A hA hE hP hD hS ls hl
  have hown : s.vm.findClass RX5 = some m.cls := hown
  have hl : lv_has ls 7 [(0, .ref aC), (1, .int p2), (2, .int p3)] := hl
  have loop_13 : ∀ (y13_1 : Int32) (y13_2 : Int32) (y13_3 : Int32) (n : Nat) (y13_4 : Int32) (y13_5 : Int32), f_X5_placeOf_L13 row y13_1 y13_2 y13_3 n y13_4 y13_5 = some v → ∀ (H : Heap) (locs : List Loc), va_P D vwC7 [(aC, .inr (0, [.ref aCr])), (aCr, .inl (K 0, 55, .inl row))] H → va_D A [(aC, .inr (0, [.ref aCr])), (aCr, .inl (K 0, 55, .inl row))] → va_S A s.heap H locs → ∀ ls : Array Slot, lv_has ls 7 [(0, .ref aC), (1, .int y13_1), (2, .int y13_2), (3, .int y13_3), (4, .int y13_4), (5, .int y13_5)] → W p l e RM_X5_placeOf s m args below meth c H locs 0 0 (MQ below (QI D (TY K) (wf_X5_placeOf K aC aCr row) v A) args s MC_X5_placeOf MS_X5_placeOf A) (F0 m 13 ls []) := by
    intro y13_1 y13_2 y13_3 n
    induction n with
    | zero =>
      intro y13_4 y13_5 hF
      exact nomatch hF
    | succ n ih =>
      intro y13_4 y13_5 hF H locs hP hD hS ls hl
      rw [f_X5_placeOf_L13.eq_2] at hF
      refine lv_iload hx hb dX5_placeOf_13 (lv_at hl 5 rfl) ?_
      refine lv_aload_n hx hb dX5_placeOf_15 rfl (lv_at hl 0 rfl) ?_
      refine lv_iconst (v := (0 : Int32)) hx hb dX5_placeOf_16 (by decide) ?_
      obtain ⟨v2, hv2, hF⟩ := oB hF
      refine call_i (wr := []) (wn := [(aC, .inr (0, [.ref aCr])), (aCr, .inl (K 0, 55, .inl row))]) (va_runV (As := [.int (0 : Int32)]) (rest := [.int y13_5]) ⟨hx, hb, hml, hown, hts⟩ (c_X0_get l D K aC aCr row (0 : Int32) v2 hv2 H.size) (cwV 1 hts gX5_placeOf_X0_get rfl rfl rfl (by decide +kernel) ⟨(Nat.le_of_ble_eq_true rfl), (Nat.le_of_ble_eq_true rfl)⟩) (prV hE hK hP hD hS hA [0, 1] rfl rfl 0 0 rfl rfl rfl) rfl rfl hl.1 rfl (lv_room (Nat.le_of_ble_eq_true rfl)) dX5_placeOf_17 ⟨(Nat.le_of_ble_eq_true rfl), (Nat.le_of_ble_eq_true rfl)⟩) hP hD hS hA [0, 1] [] [0, 1] rfl rfl rfl (by decide) rfl rfl (fun H locs hP hD hS => ?_)
      refine lv_icmp_ge (tgt := 59) hx hb dX5_placeOf_20 (by decide) (fun c3 => ?_) (fun c3 => ?_)
      · have hF := oT c3 hF
        refine lv_iload hx hb dX5_placeOf_59 (lv_at hl 4 rfl) ?_
        exact fin_i (u := (y13_4, ())) hF hx hb hr hlocks hK hP hD hS (Nat.le_of_ble_eq_true rfl) (Nat.le_of_ble_eq_true rfl) dX5_placeOf_61
      · have hF := oF c3 hF
        refine lv_aload_n hx hb dX5_placeOf_23 rfl (lv_at hl 0 rfl) ?_
        refine lv_iload_n hx hb dX5_placeOf_24 rfl (lv_at hl 1 rfl) ?_
        refine lv_iload hx hb dX5_placeOf_25 (lv_at hl 5 rfl) ?_
        obtain ⟨v4, hv4, hF⟩ := oB hF
        refine call_i (wr := []) (wn := [(aC, .inr (0, [.ref aCr])), (aCr, .inl (K 0, 55, .inl row))]) (va_runS (As := [.ref aC, .int y13_1, .int y13_5]) (rest := []) ⟨hx, hb, hml, hown, hts⟩ (c_X5_measured l D K aC aCr row y13_1 y13_5 v4 hv4 H.size) (va_cwS 3 hts gX5_placeOf_X5_measured rfl rfl rfl (by decide +kernel) ⟨(Nat.le_of_ble_eq_true rfl), (Nat.le_of_ble_eq_true rfl)⟩) (prS hE hK hP hD hS hA [0, 1] rfl rfl) rfl rfl hl.1 rfl (lv_room (Nat.le_of_ble_eq_true rfl)) dX5_placeOf_27 ⟨(Nat.le_of_ble_eq_true rfl), (Nat.le_of_ble_eq_true rfl)⟩) hP hD hS hA [0, 1] [] [0, 1] rfl rfl rfl (by decide) rfl rfl (fun H locs hP hD hS => ?_)
        refine lv_istore (lv' := [(6, .int v4.1), (0, .ref aC), (1, .int y13_1), (2, .int y13_2), (3, .int y13_3), (4, .int y13_4), (5, .int y13_5)]) hx hb dX5_placeOf_30 hl (by decide) rfl (fun ls hl => ?_)
        refine lv_iload hx hb dX5_placeOf_32 (lv_at hl 0 rfl) ?_
        refine lv_iload_n hx hb dX5_placeOf_34 rfl (lv_at hl 4 rfl) ?_
        refine lv_icmp_gt (tgt := 50) hx hb dX5_placeOf_35 (by decide) (fun c5 => ?_) (fun c5 => ?_)
        · have hF := oT c5 hF
          refine lv_iinc (v := y13_4 + (1 : Int32)) (lv' := [(4, .int (y13_4 + (1 : Int32))), (6, .int v4.1), (0, .ref aC), (1, .int y13_1), (2, .int y13_2), (3, .int y13_3), (5, .int y13_5)]) hx hb dX5_placeOf_50 hl (k := 5) rfl (by first | rfl | decide) (by decide) rfl (fun ls hl => ?_)
          refine lv_iinc (v := y13_5 + (1 : Int32)) (lv' := [(5, .int (y13_5 + (1 : Int32))), (4, .int (y13_4 + (1 : Int32))), (6, .int v4.1), (0, .ref aC), (1, .int y13_1), (2, .int y13_2), (3, .int y13_3)]) hx hb dX5_placeOf_53 hl (k := 6) rfl (by first | rfl | decide) (by decide) rfl (fun ls hl => ?_)
          refine lv_goto (tgt := 13) hx hb dX5_placeOf_56 (by decide) ?_
          exact ih (y13_4 + (1 : Int32)) (y13_5 + (1 : Int32)) hF _ _ hP hD hS _ (lv_sub hl [3, 4, 5, 6, 1, 0] rfl)
        · have hF := oF c5 hF
          refine lv_iload hx hb dX5_placeOf_38 (lv_at hl 0 rfl) ?_
          refine lv_iload_n hx hb dX5_placeOf_40 rfl (lv_at hl 4 rfl) ?_
          refine lv_icmp_ne (tgt := 53) hx hb dX5_placeOf_41 (by decide) (fun c6 => ?_) (fun c6 => ?_)
          · have hF := oF c6 hF
            refine lv_iinc (v := y13_5 + (1 : Int32)) (lv' := [(5, .int (y13_5 + (1 : Int32))), (6, .int v4.1), (0, .ref aC), (1, .int y13_1), (2, .int y13_2), (3, .int y13_3), (4, .int y13_4)]) hx hb dX5_placeOf_53 hl (k := 6) rfl (by first | rfl | decide) (by decide) rfl (fun ls hl => ?_)
            refine lv_goto (tgt := 13) hx hb dX5_placeOf_56 (by decide) ?_
            exact ih y13_4 (y13_5 + (1 : Int32)) hF _ _ hP hD hS _ (lv_sub hl [2, 3, 4, 5, 6, 0] rfl)
          · have hF := oT c6 hF
            refine lv_iload hx hb dX5_placeOf_44 (lv_at hl 6 rfl) ?_
            refine lv_iload_n hx hb dX5_placeOf_46 rfl (lv_at hl 3 rfl) ?_
            refine lv_icmp_ge (tgt := 53) hx hb dX5_placeOf_47 (by decide) (fun c7 => ?_) (fun c7 => ?_)
            · have hF := oT c7 hF
              refine lv_iinc (v := y13_5 + (1 : Int32)) (lv' := [(5, .int (y13_5 + (1 : Int32))), (6, .int v4.1), (0, .ref aC), (1, .int y13_1), (2, .int y13_2), (3, .int y13_3), (4, .int y13_4)]) hx hb dX5_placeOf_53 hl (k := 6) rfl (by first | rfl | decide) (by decide) rfl (fun ls hl => ?_)
              refine lv_goto (tgt := 13) hx hb dX5_placeOf_56 (by decide) ?_
              exact ih y13_4 (y13_5 + (1 : Int32)) hF _ _ hP hD hS _ (lv_sub hl [2, 3, 4, 5, 6, 0] rfl)
            · have hF := oF c7 hF
              refine lv_iinc (v := y13_4 + (1 : Int32)) (lv' := [(4, .int (y13_4 + (1 : Int32))), (6, .int v4.1), (0, .ref aC), (1, .int y13_1), (2, .int y13_2), (3, .int y13_3), (5, .int y13_5)]) hx hb dX5_placeOf_50 hl (k := 5) rfl (by first | rfl | decide) (by decide) rfl (fun ls hl => ?_)
              refine lv_iinc (v := y13_5 + (1 : Int32)) (lv' := [(5, .int (y13_5 + (1 : Int32))), (4, .int (y13_4 + (1 : Int32))), (6, .int v4.1), (0, .ref aC), (1, .int y13_1), (2, .int y13_2), (3, .int y13_3)]) hx hb dX5_placeOf_53 hl (k := 6) rfl (by first | rfl | decide) (by decide) rfl (fun ls hl => ?_)
              refine lv_goto (tgt := 13) hx hb dX5_placeOf_56 (by decide) ?_
              exact ih (y13_4 + (1 : Int32)) (y13_5 + (1 : Int32)) hF _ _ hP hD hS _ (lv_sub hl [3, 4, 5, 6, 1, 0] rfl)
  rw [f_X5_placeOf] at hF
  refine lv_aload_n hx hb dX5_placeOf_0 rfl (lv_at hl 0 rfl) ?_
  refine lv_iload_n hx hb dX5_placeOf_1 rfl (lv_at hl 1 rfl) ?_
  refine lv_iload_n hx hb dX5_placeOf_2 rfl (lv_at hl 2 rfl) ?_
  obtain ⟨v1, hv1, hF⟩ := oB hF
  refine call_i (wr := []) (wn := [(aC, .inr (0, [.ref aCr])), (aCr, .inl (K 0, 55, .inl row))]) (va_runS (As := [.ref aC, .int p2, .int p3]) (rest := []) ⟨hx, hb, hml, hown, hts⟩ (c_X5_measured l D K aC aCr row p2 p3 v1 hv1 s.heap.size) (va_cwS 3 hts gX5_placeOf_X5_measured rfl rfl rfl (by decide +kernel) ⟨(Nat.le_of_ble_eq_true rfl), (Nat.le_of_ble_eq_true rfl)⟩) (prS hE hK hP hD hS hA [0, 1] rfl rfl) rfl rfl hl.1 rfl (lv_room (Nat.le_of_ble_eq_true rfl)) dX5_placeOf_3 ⟨(Nat.le_of_ble_eq_true rfl), (Nat.le_of_ble_eq_true rfl)⟩) hP hD hS hA [0, 1] [] [0, 1] rfl rfl rfl (by decide) rfl rfl (fun H locs hP hD hS => ?_)
  refine lv_istore_n (lv' := [(3, .int v1.1), (0, .ref aC), (1, .int p2), (2, .int p3)]) hx hb dX5_placeOf_6 rfl hl (by decide) rfl (fun ls hl => ?_)
  refine lv_iconst (v := (0 : Int32)) hx hb dX5_placeOf_7 (by decide) ?_
  refine lv_istore (lv' := [(4, .int (0 : Int32)), (3, .int v1.1), (0, .ref aC), (1, .int p2), (2, .int p3)]) hx hb dX5_placeOf_8 hl (by decide) rfl (fun ls hl => ?_)
  refine lv_iconst (v := (0 : Int32)) hx hb dX5_placeOf_10 (by decide) ?_
  refine lv_istore (lv' := [(5, .int (0 : Int32)), (4, .int (0 : Int32)), (3, .int v1.1), (0, .ref aC), (1, .int p2), (2, .int p3)]) hx hb dX5_placeOf_11 hl (by decide) rfl (fun ls hl => ?_)
  exact loop_13 p2 p3 v1.1 FU (0 : Int32) (0 : Int32) hF _ _ hP hD hS _ (lv_sub hl [3, 4, 5, 2, 1, 0] rfl)
abbrev RM_X5_atPlace : Room := { frames := 4, cells := 0, slots := 0, locals := 93 }
abbrev MC_X5_atPlace : Nat := 0
abbrev MS_X5_atPlace : Nat := 0
abbrev wf_X5_atPlace (K : Nat → ClassId) (aC : Nat) (aCr : Nat) (row : Nat → Int32) (v : Int32 × Unit) : va_W := [(aC, .inr (0, [.ref aCr])), (aCr, .inl (K 0, 55, .inl row))]
set_option maxHeartbeats 4000000 in
set_option maxRecDepth 100000 in
theorem c_X5_atPlace (l : Launch) (D : va_G) (K : Nat → ClassId) (aC : Nat) (aCr : Nat) (row : Nat → Int32) (p2 : Int32) (p3 : Int32) (v : Int32 × Unit) (hF : f_X5_atPlace row p2 p3 = some v) (sz : Nat) :
    (Met l yX5_atPlace wsX5_atPlace RM_X5_atPlace (PC D (TY K) [(aC, .inr (0, [.ref aCr])), (aCr, .inl (K 0, 55, .inl row))] [.ref aC, .int p2, .int p3] sz) (QI D (TY K) (wf_X5_atPlace K aC aCr row) v (va_A [(aC, .inr (0, [.ref aCr])), (aCr, .inl (K 0, 55, .inl row))] sz)) MC_X5_atPlace MS_X5_atPlace (va_A [(aC, .inr (0, [.ref aCr])), (aCr, .inl (K 0, 55, .inl row))] sz)) := by
  refine pro (Qf := fun A => QI D (TY K) (wf_X5_atPlace K aC aCr row) v A) (cc := cX5_atPlace) (maxL := 4) (ret := (some .int)) (by decide +kernel) rfl (Nat.le_of_ble_eq_true rfl) ?_
  intro p e s m args below meth c hx hb hr hts hown hlocks hml hini hK A hA hE hP hD hS ls hl
  have hown : s.vm.findClass RX5 = some m.cls := hown
  have hl : lv_has ls 4 [(0, .ref aC), (1, .int p2), (2, .int p3)] := hl
  have loop_2 : ∀ (y2_1 : Int32) (y2_2 : Int32) (n : Nat) (y2_3 : Int32), f_X5_atPlace_L2 row y2_1 y2_2 n y2_3 = some v → ∀ (H : Heap) (locs : List Loc), va_P D vwC7 [(aC, .inr (0, [.ref aCr])), (aCr, .inl (K 0, 55, .inl row))] H → va_D A [(aC, .inr (0, [.ref aCr])), (aCr, .inl (K 0, 55, .inl row))] → va_S A s.heap H locs → ∀ ls : Array Slot, lv_has ls 4 [(0, .ref aC), (1, .int y2_1), (2, .int y2_2), (3, .int y2_3)] → W p l e RM_X5_atPlace s m args below meth c H locs 0 0 (MQ below (QI D (TY K) (wf_X5_atPlace K aC aCr row) v A) args s MC_X5_atPlace MS_X5_atPlace A) (F0 m 2 ls []) := by
    intro y2_1 y2_2 n
    induction n with
    | zero =>
      intro y2_3 hF
      exact nomatch hF
    | succ n ih =>
      intro y2_3 hF H locs hP hD hS ls hl
      rw [f_X5_atPlace_L2.eq_2] at hF
      refine lv_iload_n hx hb dX5_atPlace_2 rfl (lv_at hl 3 rfl) ?_
      refine lv_aload_n hx hb dX5_atPlace_3 rfl (lv_at hl 0 rfl) ?_
      refine lv_iconst (v := (0 : Int32)) hx hb dX5_atPlace_4 (by decide) ?_
      obtain ⟨v1, hv1, hF⟩ := oB hF
      refine call_i (wr := []) (wn := [(aC, .inr (0, [.ref aCr])), (aCr, .inl (K 0, 55, .inl row))]) (va_runV (As := [.int (0 : Int32)]) (rest := [.int y2_3]) ⟨hx, hb, hml, hown, hts⟩ (c_X0_get l D K aC aCr row (0 : Int32) v1 hv1 H.size) (cwV 1 hts gX5_atPlace_X0_get rfl rfl rfl (by decide +kernel) ⟨(Nat.le_of_ble_eq_true rfl), (Nat.le_of_ble_eq_true rfl)⟩) (prV hE hK hP hD hS hA [0, 1] rfl rfl 0 0 rfl rfl rfl) rfl rfl hl.1 rfl (lv_room (Nat.le_of_ble_eq_true rfl)) dX5_atPlace_5 ⟨(Nat.le_of_ble_eq_true rfl), (Nat.le_of_ble_eq_true rfl)⟩) hP hD hS hA [0, 1] [] [0, 1] rfl rfl rfl (by decide) rfl rfl (fun H locs hP hD hS => ?_)
      refine lv_icmp_ge (tgt := 29) hx hb dX5_atPlace_8 (by decide) (fun c2 => ?_) (fun c2 => ?_)
      · have hF := oT c2 hF
        refine lv_iconst (v := (-1 : Int32)) hx hb dX5_atPlace_29 (by decide) ?_
        exact fin_i (u := ((-1 : Int32), ())) hF hx hb hr hlocks hK hP hD hS (Nat.le_of_ble_eq_true rfl) (Nat.le_of_ble_eq_true rfl) dX5_atPlace_30
      · have hF := oF c2 hF
        refine lv_aload_n hx hb dX5_atPlace_11 rfl (lv_at hl 0 rfl) ?_
        refine lv_iload_n hx hb dX5_atPlace_12 rfl (lv_at hl 1 rfl) ?_
        refine lv_iload_n hx hb dX5_atPlace_13 rfl (lv_at hl 3 rfl) ?_
        obtain ⟨v3, hv3, hF⟩ := oB hF
        refine call_i (wr := []) (wn := [(aC, .inr (0, [.ref aCr])), (aCr, .inl (K 0, 55, .inl row))]) (va_runS (As := [.ref aC, .int y2_1, .int y2_3]) (rest := []) ⟨hx, hb, hml, hown, hts⟩ (c_X5_placeOf l D K aC aCr row y2_1 y2_3 v3 hv3 H.size) (va_cwS 3 hts gX5_atPlace_X5_placeOf rfl rfl rfl (by decide +kernel) ⟨(Nat.le_of_ble_eq_true rfl), (Nat.le_of_ble_eq_true rfl)⟩) (prS hE hK hP hD hS hA [0, 1] rfl rfl) rfl rfl hl.1 rfl (lv_room (Nat.le_of_ble_eq_true rfl)) dX5_atPlace_14 ⟨(Nat.le_of_ble_eq_true rfl), (Nat.le_of_ble_eq_true rfl)⟩) hP hD hS hA [0, 1] [] [0, 1] rfl rfl rfl (by decide) rfl rfl (fun H locs hP hD hS => ?_)
        refine lv_iload_n hx hb dX5_atPlace_17 rfl (lv_at hl 2 rfl) ?_
        refine lv_icmp_ne (tgt := 23) hx hb dX5_atPlace_18 (by decide) (fun c4 => ?_) (fun c4 => ?_)
        · have hF := oF c4 hF
          refine lv_iinc (v := y2_3 + (1 : Int32)) (lv' := [(3, .int (y2_3 + (1 : Int32))), (0, .ref aC), (1, .int y2_1), (2, .int y2_2)]) hx hb dX5_atPlace_23 hl (k := 3) rfl (by first | rfl | decide) (by decide) rfl (fun ls hl => ?_)
          refine lv_goto (tgt := 2) hx hb dX5_atPlace_26 (by decide) ?_
          exact ih (y2_3 + (1 : Int32)) hF _ _ hP hD hS _ (lv_sub hl [1, 2, 3, 0] rfl)
        · have hF := oT c4 hF
          refine lv_iload_n hx hb dX5_atPlace_21 rfl (lv_at hl 3 rfl) ?_
          exact fin_i (u := (y2_3, ())) hF hx hb hr hlocks hK hP hD hS (Nat.le_of_ble_eq_true rfl) (Nat.le_of_ble_eq_true rfl) dX5_atPlace_22
  rw [f_X5_atPlace] at hF
  refine lv_iconst (v := (0 : Int32)) hx hb dX5_atPlace_0 (by decide) ?_
  refine lv_istore_n (lv' := [(3, .int (0 : Int32)), (0, .ref aC), (1, .int p2), (2, .int p3)]) hx hb dX5_atPlace_1 rfl hl (by decide) rfl (fun ls hl => ?_)
  exact loop_2 p2 p3 FU (0 : Int32) hF _ _ hP hD hS _ (lv_sub hl [1, 2, 3, 0] rfl)
