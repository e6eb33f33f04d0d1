abbrev RM_X1_length : Room := { frames := 0, cells := 0, slots := 0, locals := 0 }
abbrev MC_X1_length : Nat := 0
abbrev MS_X1_length : Nat := 0
abbrev wf_X1_length (K : Nat → ClassId) (aT : Nat) (aTc : Nat) (aTp : Nat) (tL : Int32) (tS : Int32) (tQ : Int32) (tF : Int32) (v : Int32 × Unit) : va_W := [(aT, .inr (1, [.ref aTc, .ref aTp, .int tL, .int tS, .int tQ, .int tF]))]
set_option maxHeartbeats 4000000 in
set_option maxRecDepth 100000 in
theorem c_X1_length (l : Launch) (D : va_G) (K : Nat → ClassId) (aT : Nat) (aTc : Nat) (aTp : Nat) (tL : Int32) (tS : Int32) (tQ : Int32) (tF : Int32)  (v : Int32 × Unit) (hF : f_X1_length tL = some v) (sz : Nat) :
    (Met l yX1_length wsX1_length RM_X1_length (PC D (TY K) [(aT, .inr (1, [.ref aTc, .ref aTp, .int tL, .int tS, .int tQ, .int tF]))] [.ref aT] sz) (QI D (TY K) (wf_X1_length K aT aTc aTp tL tS tQ tF) v (va_A [(aT, .inr (1, [.ref aTc, .ref aTp, .int tL, .int tS, .int tQ, .int tF]))] sz)) MC_X1_length MS_X1_length (va_A [(aT, .inr (1, [.ref aTc, .ref aTp, .int tL, .int tS, .int tQ, .int tF]))] sz)) := by
  refine pro (Qf := fun A => QI D (TY K) (wf_X1_length K aT aTc aTp tL tS tQ tF) v A) (cc := cX1_length) (maxL := 1) (ret := (some .int)) (by decide +kernel) rfl (Nat.le_of_ble_eq_true rfl) ?_
  intro p e s m args below meth c hx hb hr hts hown hlocks hml hini hK A hA hE hP hD hS ls hl
  have hown : s.vm.findClass RX1 = some m.cls := hown
  have hl : lv_has ls 1 [(0, .ref aT)] := hl
  rw [f_X1_length] at hF
  refine lv_aload_n hx hb dX1_length_0 rfl (lv_at hl 0 rfl) ?_
  refine va_get (D := D) (ci := 1) (v := .int tL) (C := RX1) (T := TX1) (N := 6) hx hb hts (fun _ h => List.mem_cons_of_mem _ (List.mem_append_right _ h)) hown hK hP 0 rfl rfl 2 (by decide) (hts (.fieldLink RX1 19 "BarometerClub$CommandText" "length" "I") (List.mem_of_getElem? (i := 1) rfl)) (fun _ h9 => h9) rfl dX1_length_1 ?_
  exact fin_i (u := (tL, ())) hF hx hb hr hlocks hK hP hD hS (Nat.le_of_ble_eq_true rfl) (Nat.le_of_ble_eq_true rfl) dX1_length_4
abbrev RM_X1_isFull : Room := { frames := 0, cells := 0, slots := 0, locals := 0 }
abbrev MC_X1_isFull : Nat := 0
abbrev MS_X1_isFull : Nat := 0
abbrev wf_X1_isFull (K : Nat → ClassId) (aT : Nat) (aTc : Nat) (aTp : Nat) (tL : Int32) (tS : Int32) (tQ : Int32) (tF : Int32) (v : Int32 × Unit) : va_W := [(aT, .inr (1, [.ref aTc, .ref aTp, .int tL, .int tS, .int tQ, .int tF]))]
set_option maxHeartbeats 4000000 in
set_option maxRecDepth 100000 in
theorem c_X1_isFull (l : Launch) (D : va_G) (K : Nat → ClassId) (aT : Nat) (aTc : Nat) (aTp : Nat) (tL : Int32) (tS : Int32) (tQ : Int32) (tF : Int32)  (v : Int32 × Unit) (hF : f_X1_isFull tL = some v) (sz : Nat) :
    (Met l yX1_isFull wsX1_isFull RM_X1_isFull (PC D (TY K) [(aT, .inr (1, [.ref aTc, .ref aTp, .int tL, .int tS, .int tQ, .int tF]))] [.ref aT] sz) (QI D (TY K) (wf_X1_isFull K aT aTc aTp tL tS tQ tF) v (va_A [(aT, .inr (1, [.ref aTc, .ref aTp, .int tL, .int tS, .int tQ, .int tF]))] sz)) MC_X1_isFull MS_X1_isFull (va_A [(aT, .inr (1, [.ref aTc, .ref aTp, .int tL, .int tS, .int tQ, .int tF]))] sz)) := by
  refine pro (Qf := fun A => QI D (TY K) (wf_X1_isFull K aT aTc aTp tL tS tQ tF) v A) (cc := cX1_isFull) (maxL := 1) (ret := (some .boolean)) (by decide +kernel) rfl (Nat.le_of_ble_eq_true rfl) ?_
  intro p e s m args below meth c hx hb hr hts hown hlocks hml hini hK A hA hE hP hD hS ls hl
  have hown : s.vm.findClass RX1 = some m.cls := hown
  have hl : lv_has ls 1 [(0, .ref aT)] := hl
  rw [f_X1_isFull] at hF
  refine lv_aload_n hx hb dX1_isFull_0 rfl (lv_at hl 0 rfl) ?_
  refine va_get (D := D) (ci := 1) (v := .int tL) (C := RX1) (T := TX1) (N := 6) hx hb hts (fun _ h => List.mem_cons_of_mem _ (List.mem_append_right _ h)) hown hK hP 0 rfl rfl 2 (by decide) (hts (.fieldLink RX1 19 "BarometerClub$CommandText" "length" "I") (List.mem_of_getElem? (i := 1) rfl)) (fun _ h9 => h9) rfl dX1_isFull_1 ?_
  refine lv_bipush (v := (60 : Int32)) hx hb dX1_isFull_4 (by decide) ?_
  refine lv_icmp_lt (tgt := 13) hx hb dX1_isFull_6 (by decide) (fun c1 => ?_) (fun c1 => ?_)
  · have hF := oT c1 hF
    refine lv_iconst (v := (0 : Int32)) hx hb dX1_isFull_13 (by decide) ?_
    exact fin_z (u := ((0 : Int32), ())) hF (okN_n (ty := .boolean) (x := (0 : Int32)) (by decide)) hx hb hr hlocks hK hP hD hS (Nat.le_of_ble_eq_true rfl) (Nat.le_of_ble_eq_true rfl) dX1_isFull_14
  · have hF := oF c1 hF
    refine lv_iconst (v := (1 : Int32)) hx hb dX1_isFull_9 (by decide) ?_
    refine lv_goto (tgt := 14) hx hb dX1_isFull_10 (by decide) ?_
    exact fin_z (u := ((1 : Int32), ())) hF (okN_n (ty := .boolean) (x := (1 : Int32)) (by decide)) hx hb hr hlocks hK hP hD hS (Nat.le_of_ble_eq_true rfl) (Nat.le_of_ble_eq_true rfl) dX1_isFull_14
abbrev RM_X1_add : Room := { frames := 0, cells := 0, slots := 0, locals := 0 }
abbrev MC_X1_add : Nat := 0
abbrev MS_X1_add : Nat := 0
abbrev wf_X1_add (K : Nat → ClassId) (aT : Nat) (aTc : Nat) (aTp : Nat) (tS : Int32) (tQ : Int32) (tF : Int32) (v : Int32 × (Nat → Int32)) : va_W := [(aT, .inr (1, [.ref aTc, .ref aTp, .int v.1, .int tS, .int tQ, .int tF])), (aTc, .inl (K 2, 60, .inl v.2))]
set_option maxHeartbeats 4000000 in
set_option maxRecDepth 100000 in
theorem c_X1_add (l : Launch) (D : va_G) (K : Nat → ClassId) (aT : Nat) (aTc : Nat) (aTp : Nat) (tL : Int32) (tS : Int32) (tQ : Int32) (tF : Int32) (tC : Nat → Int32) (p1 : Int32) (v : Int32 × (Nat → Int32)) (hF : f_X1_add tL tC p1 = some v) (sz : Nat) :
    (Met l yX1_add wsX1_add RM_X1_add (PC D (TY K) [(aT, .inr (1, [.ref aTc, .ref aTp, .int tL, .int tS, .int tQ, .int tF])), (aTc, .inl (K 2, 60, .inl tC))] [.ref aT, .int p1] sz) (QV D (TY K) (wf_X1_add K aT aTc aTp tS tQ tF) v (va_A [(aT, .inr (1, [.ref aTc, .ref aTp, .int tL, .int tS, .int tQ, .int tF])), (aTc, .inl (K 2, 60, .inl tC))] sz)) MC_X1_add MS_X1_add (va_A [(aT, .inr (1, [.ref aTc, .ref aTp, .int tL, .int tS, .int tQ, .int tF])), (aTc, .inl (K 2, 60, .inl tC))] sz)) := by
  refine pro (Qf := fun A => QV D (TY K) (wf_X1_add K aT aTc aTp tS tQ tF) v A) (cc := cX1_add) (maxL := 2) (ret := none) (by decide +kernel) rfl (Nat.le_of_ble_eq_true rfl) ?_
  intro p e s m args below meth c hx hb hr hts hown hlocks hml hini hK A hA hE hP hD hS ls hl
  have hown : s.vm.findClass RX1 = some m.cls := hown
  have hl : lv_has ls 2 [(0, .ref aT), (1, .int p1)] := hl
  rw [f_X1_add] at hF
  refine lv_aload_n hx hb dX1_add_0 rfl (lv_at hl 0 rfl) ?_
  refine va_get (D := D) (ci := 1) (v := .int tL) (C := RX1) (T := TX1) (N := 6) hx hb hts (fun _ h => List.mem_cons_of_mem _ (List.mem_append_left _ (List.mem_append_right _ h))) hown hK hP 0 rfl rfl 2 (by decide) (hts (.fieldLink RX1 19 "BarometerClub$CommandText" "length" "I") (List.mem_of_getElem? (i := 1) rfl)) (fun _ h9 => h9) rfl dX1_add_1 ?_
  refine lv_if_lt (tgt := 36) hx hb dX1_add_4 (by decide) (fun c1 => ?_) (fun c1 => ?_)
  · have hF := oT c1 hF
    exact fin_v (u := (tL, tC)) hF hx hb hr hlocks hK hP hD hS (Nat.le_of_ble_eq_true rfl) (Nat.le_of_ble_eq_true rfl) dX1_add_36
  · have hF := oF c1 hF
    refine lv_aload_n hx hb dX1_add_7 rfl (lv_at hl 0 rfl) ?_
    refine va_get (D := D) (ci := 1) (v := .int tL) (C := RX1) (T := TX1) (N := 6) hx hb hts (fun _ h => List.mem_cons_of_mem _ (List.mem_append_left _ (List.mem_append_right _ h))) hown hK hP 0 rfl rfl 2 (by decide) (hts (.fieldLink RX1 19 "BarometerClub$CommandText" "length" "I") (List.mem_of_getElem? (i := 1) rfl)) (fun _ h9 => h9) rfl dX1_add_8 ?_
    refine lv_bipush (v := (60 : Int32)) hx hb dX1_add_11 (by decide) ?_
    refine lv_icmp_ge (tgt := 36) hx hb dX1_add_13 (by decide) (fun c2 => ?_) (fun c2 => ?_)
    · have hF := oT c2 hF
      exact fin_v (u := (tL, tC)) hF hx hb hr hlocks hK hP hD hS (Nat.le_of_ble_eq_true rfl) (Nat.le_of_ble_eq_true rfl) dX1_add_36
    · have hF := oF c2 hF
      refine lv_aload_n hx hb dX1_add_16 rfl (lv_at hl 0 rfl) ?_
      refine va_get (D := D) (ci := 1) (v := .ref aTc) (C := RX1) (T := TX1) (N := 6) hx hb hts (fun _ h => List.mem_cons_of_mem _ (List.mem_append_left _ (List.mem_append_right _ h))) hown hK hP 0 rfl rfl 0 (by decide) (hts (.fieldLink RX1 11 "BarometerClub$CommandText" "characters" "[C") (List.mem_of_getElem? (i := 2) rfl)) (fun _ h9 => h9) rfl dX1_add_17 ?_
      refine lv_aload_n hx hb dX1_add_20 rfl (lv_at hl 0 rfl) ?_
      refine va_get (D := D) (ci := 1) (v := .int tL) (C := RX1) (T := TX1) (N := 6) hx hb hts (fun _ h => List.mem_cons_of_mem _ (List.mem_append_left _ (List.mem_append_right _ h))) hown hK hP 0 rfl rfl 2 (by decide) (hts (.fieldLink RX1 19 "BarometerClub$CommandText" "length" "I") (List.mem_of_getElem? (i := 1) rfl)) (fun _ h9 => h9) rfl dX1_add_21 ?_
      refine lv_iload_n hx hb dX1_add_24 rfl (lv_at hl 1 rfl) ?_
      obtain ⟨g3, hF⟩ := oG hF
      refine va_cast hx hb hK hP hD hS 1 2 rfl rfl (inB_in g3) dX1_add_25 (fun H locs hP hD hS => ?_)
      have hP : va_P D vwC7 [(aT, .inr (1, [.ref aTc, .ref aTp, .int tL, .int tS, .int tQ, .int tF])), (aTc, .inl (K 2, 60, .inl (upd tC tL.toNatClampNeg (vp_nar .char p1))))] H := hP
      have hD : va_D A [(aT, .inr (1, [.ref aTc, .ref aTp, .int tL, .int tS, .int tQ, .int tF])), (aTc, .inl (K 2, 60, .inl (upd tC tL.toNatClampNeg (vp_nar .char p1))))] := hD
      refine lv_aload_n hx hb dX1_add_26 rfl (lv_at hl 0 rfl) ?_
      refine lv_dup hx hb dX1_add_27 rfl ?_
      refine va_get (D := D) (ci := 1) (v := .int tL) (C := RX1) (T := TX1) (N := 6) hx hb hts (fun _ h => List.mem_cons_of_mem _ (List.mem_append_left _ (List.mem_append_right _ h))) hown hK hP 0 rfl rfl 2 (by decide) (hts (.fieldLink RX1 19 "BarometerClub$CommandText" "length" "I") (List.mem_of_getElem? (i := 1) rfl)) (fun _ h9 => h9) rfl dX1_add_28 ?_
      refine lv_iconst (v := (1 : Int32)) hx hb dX1_add_31 (by decide) ?_
      refine lv_iadd hx hb dX1_add_32 ?_
      refine va_put (D := D) (ci := 1) (v := .int (tL + (1 : Int32))) (ty := .int) (C := RX1) (T := TX1) (N := 6) hx hb hts (fun _ h => List.mem_cons_of_mem _ (List.mem_append_left _ (List.mem_append_right _ h))) tyX1 tyX1_ok nmX1 hown hK hP hD hS 0 rfl rfl 2 (by decide) (hts (.fieldLink RX1 19 "BarometerClub$CommandText" "length" "I") (List.mem_of_getElem? (i := 1) rfl)) (fun _ h9 => h9) rfl (by decide +kernel) rfl rfl (Nat.le_of_ble_eq_true rfl) dX1_add_33 (fun H locs hP hD hS => ?_)
      have hP : va_P D vwC7 [(aT, .inr (1, [.ref aTc, .ref aTp, .int (tL + (1 : Int32)), .int tS, .int tQ, .int tF])), (aTc, .inl (K 2, 60, .inl (upd tC tL.toNatClampNeg (vp_nar .char p1))))] H := hP
      have hD : va_D A [(aT, .inr (1, [.ref aTc, .ref aTp, .int (tL + (1 : Int32)), .int tS, .int tQ, .int tF])), (aTc, .inl (K 2, 60, .inl (upd tC tL.toNatClampNeg (vp_nar .char p1))))] := hD
      exact fin_v (u := (tL + (1 : Int32), upd tC tL.toNatClampNeg (vp_nar .char p1))) hF hx hb hr hlocks hK hP hD hS (Nat.le_of_ble_eq_true rfl) (Nat.le_of_ble_eq_true rfl) dX1_add_36
abbrev RM_X1_empty : Room := { frames := 0, cells := 0, slots := 0, locals := 0 }
abbrev MC_X1_empty : Nat := 0
abbrev MS_X1_empty : Nat := 0
abbrev wf_X1_empty (K : Nat → ClassId) (aT : Nat) (aTc : Nat) (aTp : Nat) (tS : Int32) (tQ : Int32) (tF : Int32) (v : Int32) : va_W := [(aT, .inr (1, [.ref aTc, .ref aTp, .int v, .int tS, .int tQ, .int tF]))]
set_option maxHeartbeats 4000000 in
set_option maxRecDepth 100000 in
theorem c_X1_empty (l : Launch) (D : va_G) (K : Nat → ClassId) (aT : Nat) (aTc : Nat) (aTp : Nat) (tL : Int32) (tS : Int32) (tQ : Int32) (tF : Int32)  (v : Int32) (hF : f_X1_empty tL = some v) (sz : Nat) :
    (Met l yX1_empty wsX1_empty RM_X1_empty (PC D (TY K) [(aT, .inr (1, [.ref aTc, .ref aTp, .int tL, .int tS, .int tQ, .int tF]))] [.ref aT] sz) (QV D (TY K) (wf_X1_empty K aT aTc aTp tS tQ tF) v (va_A [(aT, .inr (1, [.ref aTc, .ref aTp, .int tL, .int tS, .int tQ, .int tF]))] sz)) MC_X1_empty MS_X1_empty (va_A [(aT, .inr (1, [.ref aTc, .ref aTp, .int tL, .int tS, .int tQ, .int tF]))] sz)) := by
  refine pro (Qf := fun A => QV D (TY K) (wf_X1_empty K aT aTc aTp tS tQ tF) v A) (cc := cX1_empty) (maxL := 1) (ret := none) (by decide +kernel) rfl (Nat.le_of_ble_eq_true rfl) ?_
  intro p e s m args below meth c hx hb hr hts hown hlocks hml hini hK A hA hE hP hD hS ls hl
  have hown : s.vm.findClass RX1 = some m.cls := hown
  have hl : lv_has ls 1 [(0, .ref aT)] := hl
  rw [f_X1_empty] at hF
  refine lv_aload_n hx hb dX1_empty_0 rfl (lv_at hl 0 rfl) ?_
  refine lv_iconst (v := (0 : Int32)) hx hb dX1_empty_1 (by decide) ?_
  refine va_put (D := D) (ci := 1) (v := .int (0 : Int32)) (ty := .int) (C := RX1) (T := TX1) (N := 6) hx hb hts (fun _ h => List.mem_cons_of_mem _ (List.mem_append_right _ h)) tyX1 tyX1_ok nmX1 hown hK hP hD hS 0 rfl rfl 2 (by decide) (hts (.fieldLink RX1 19 "BarometerClub$CommandText" "length" "I") (List.mem_of_getElem? (i := 1) rfl)) (fun _ h9 => h9) rfl (by decide +kernel) rfl rfl (Nat.le_of_ble_eq_true rfl) dX1_empty_2 (fun H locs hP hD hS => ?_)
  have hP : va_P D vwC7 [(aT, .inr (1, [.ref aTc, .ref aTp, .int (0 : Int32), .int tS, .int tQ, .int tF]))] H := hP
  have hD : va_D A [(aT, .inr (1, [.ref aTc, .ref aTp, .int (0 : Int32), .int tS, .int tQ, .int tF]))] := hD
  exact fin_v (u := (0 : Int32)) hF hx hb hr hlocks hK hP hD hS (Nat.le_of_ble_eq_true rfl) (Nat.le_of_ble_eq_true rfl) dX1_empty_5
abbrev RM_X1_size : Room := { frames := 0, cells := 0, slots := 0, locals := 0 }
abbrev MC_X1_size : Nat := 0
abbrev MS_X1_size : Nat := 0
abbrev wf_X1_size (K : Nat → ClassId) (aT : Nat) (aTc : Nat) (aTp : Nat) (tL : Int32) (tS : Int32) (tQ : Int32) (tF : Int32) (v : Int32 × Unit) : va_W := [(aT, .inr (1, [.ref aTc, .ref aTp, .int tL, .int tS, .int tQ, .int tF]))]
set_option maxHeartbeats 4000000 in
set_option maxRecDepth 100000 in
theorem c_X1_size (l : Launch) (D : va_G) (K : Nat → ClassId) (aT : Nat) (aTc : Nat) (aTp : Nat) (tL : Int32) (tS : Int32) (tQ : Int32) (tF : Int32)  (v : Int32 × Unit) (hF : f_X1_size tS = some v) (sz : Nat) :
    (Met l yX1_size wsX1_size RM_X1_size (PC D (TY K) [(aT, .inr (1, [.ref aTc, .ref aTp, .int tL, .int tS, .int tQ, .int tF]))] [.ref aT] sz) (QI D (TY K) (wf_X1_size K aT aTc aTp tL tS tQ tF) v (va_A [(aT, .inr (1, [.ref aTc, .ref aTp, .int tL, .int tS, .int tQ, .int tF]))] sz)) MC_X1_size MS_X1_size (va_A [(aT, .inr (1, [.ref aTc, .ref aTp, .int tL, .int tS, .int tQ, .int tF]))] sz)) := by
  refine pro (Qf := fun A => QI D (TY K) (wf_X1_size K aT aTc aTp tL tS tQ tF) v A) (cc := cX1_size) (maxL := 1) (ret := (some .int)) (by decide +kernel) rfl (Nat.le_of_ble_eq_true rfl) ?_
  intro p e s m args below meth c hx hb hr hts hown hlocks hml hini hK A hA hE hP hD hS ls hl
  have hown : s.vm.findClass RX1 = some m.cls := hown
  have hl : lv_has ls 1 [(0, .ref aT)] := hl
  rw [f_X1_size] at hF
  refine lv_aload_n hx hb dX1_size_0 rfl (lv_at hl 0 rfl) ?_
  refine va_get (D := D) (ci := 1) (v := .int tS) (C := RX1) (T := TX1) (N := 6) hx hb hts (fun _ h => List.mem_cons_of_mem _ (List.mem_append_right _ h)) hown hK hP 0 rfl rfl 3 (by decide) (hts (.fieldLink RX1 23 "BarometerClub$CommandText" "size" "I") (List.mem_of_getElem? (i := 1) rfl)) (fun _ h9 => h9) rfl dX1_size_1 ?_
  exact fin_i (u := (tS, ())) hF hx hb hr hlocks hK hP hD hS (Nat.le_of_ble_eq_true rfl) (Nat.le_of_ble_eq_true rfl) dX1_size_4
abbrev RM_X1_isPart : Room := { frames := 0, cells := 0, slots := 0, locals := 0 }
abbrev MC_X1_isPart : Nat := 0
abbrev MS_X1_isPart : Nat := 0
abbrev wf_X1_isPart (K : Nat → ClassId)   (v : Int32 × Unit) : va_W := []
set_option maxHeartbeats 4000000 in
set_option maxRecDepth 100000 in
theorem c_X1_isPart (l : Launch) (D : va_G) (K : Nat → ClassId)   (p1 : Int32) (p2 : Int32) (v : Int32 × Unit) (hF : f_X1_isPart p1 p2 = some v) (sz : Nat) :
    (Met l yX1_isPart wsX1_isPart RM_X1_isPart (PC D (TY K) [] [.int p1, .int p2] sz) (QI D (TY K) (wf_X1_isPart K) v (va_A [] sz)) MC_X1_isPart MS_X1_isPart (va_A [] sz)) := by
  refine pro (Qf := fun A => QI D (TY K) (wf_X1_isPart K) v A) (cc := cX1_isPart) (maxL := 2) (ret := (some .boolean)) (by decide +kernel) rfl (Nat.le_of_ble_eq_true rfl) ?_
  intro p e s m args below meth c hx hb hr hts hown hlocks hml hini hK A hA hE hP hD hS ls hl
  have hown : s.vm.findClass RX1 = some m.cls := hown
  have hl : lv_has ls 2 [(0, .int p1), (1, .int p2)] := hl
  rw [f_X1_isPart] at hF
  refine lv_iload_n hx hb dX1_isPart_0 rfl (lv_at hl 0 rfl) ?_
  refine lv_if_lt (tgt := 23) hx hb dX1_isPart_1 (by decide) (fun c1 => ?_) (fun c1 => ?_)
  · have hF := oT c1 hF
    refine lv_iconst (v := (0 : Int32)) hx hb dX1_isPart_23 (by decide) ?_
    exact fin_z (u := ((0 : Int32), ())) hF (okN_n (ty := .boolean) (x := (0 : Int32)) (by decide)) hx hb hr hlocks hK hP hD hS (Nat.le_of_ble_eq_true rfl) (Nat.le_of_ble_eq_true rfl) dX1_isPart_24
  · have hF := oF c1 hF
    refine lv_iload_n hx hb dX1_isPart_4 rfl (lv_at hl 0 rfl) ?_
    refine lv_bipush (v := (60 : Int32)) hx hb dX1_isPart_5 (by decide) ?_
    refine lv_icmp_ge (tgt := 23) hx hb dX1_isPart_7 (by decide) (fun c2 => ?_) (fun c2 => ?_)
    · have hF := oT c2 hF
      refine lv_iconst (v := (0 : Int32)) hx hb dX1_isPart_23 (by decide) ?_
      exact fin_z (u := ((0 : Int32), ())) hF (okN_n (ty := .boolean) (x := (0 : Int32)) (by decide)) hx hb hr hlocks hK hP hD hS (Nat.le_of_ble_eq_true rfl) (Nat.le_of_ble_eq_true rfl) dX1_isPart_24
    · have hF := oF c2 hF
      refine lv_iload_n hx hb dX1_isPart_10 rfl (lv_at hl 1 rfl) ?_
      refine lv_if_lt (tgt := 23) hx hb dX1_isPart_11 (by decide) (fun c3 => ?_) (fun c3 => ?_)
      · have hF := oT c3 hF
        refine lv_iconst (v := (0 : Int32)) hx hb dX1_isPart_23 (by decide) ?_
        exact fin_z (u := ((0 : Int32), ())) hF (okN_n (ty := .boolean) (x := (0 : Int32)) (by decide)) hx hb hr hlocks hK hP hD hS (Nat.le_of_ble_eq_true rfl) (Nat.le_of_ble_eq_true rfl) dX1_isPart_24
      · have hF := oF c3 hF
        refine lv_iload_n hx hb dX1_isPart_14 rfl (lv_at hl 1 rfl) ?_
        refine lv_iconst (v := (4 : Int32)) hx hb dX1_isPart_15 (by decide) ?_
        refine lv_icmp_ge (tgt := 23) hx hb dX1_isPart_16 (by decide) (fun c4 => ?_) (fun c4 => ?_)
        · have hF := oT c4 hF
          refine lv_iconst (v := (0 : Int32)) hx hb dX1_isPart_23 (by decide) ?_
          exact fin_z (u := ((0 : Int32), ())) hF (okN_n (ty := .boolean) (x := (0 : Int32)) (by decide)) hx hb hr hlocks hK hP hD hS (Nat.le_of_ble_eq_true rfl) (Nat.le_of_ble_eq_true rfl) dX1_isPart_24
        · have hF := oF c4 hF
          refine lv_iconst (v := (1 : Int32)) hx hb dX1_isPart_19 (by decide) ?_
          refine lv_goto (tgt := 24) hx hb dX1_isPart_20 (by decide) ?_
          exact fin_z (u := ((1 : Int32), ())) hF (okN_n (ty := .boolean) (x := (1 : Int32)) (by decide)) hx hb hr hlocks hK hP hD hS (Nat.le_of_ble_eq_true rfl) (Nat.le_of_ble_eq_true rfl) dX1_isPart_24
abbrev RM_X1_number : Room := { frames := 1, cells := 0, slots := 0, locals := 21 }
abbrev MC_X1_number : Nat := 0
abbrev MS_X1_number : Nat := 0
abbrev wf_X1_number (K : Nat → ClassId) (aT : Nat) (aTc : Nat) (aTp : Nat) (tL : Int32) (tS : Int32) (tQ : Int32) (tF : Int32) (tP : Nat → Int32) (v : Int32 × Unit) : va_W := [(aT, .inr (1, [.ref aTc, .ref aTp, .int tL, .int tS, .int tQ, .int tF])), (aTp, .inl (K 3, 240, .inl tP))]
set_option maxHeartbeats 4000000 in
set_option maxRecDepth 100000 in
theorem c_X1_number (l : Launch) (D : va_G) (K : Nat → ClassId) (aT : Nat) (aTc : Nat) (aTp : Nat) (tL : Int32) (tS : Int32) (tQ : Int32) (tF : Int32) (tP : Nat → Int32) (p1 : Int32) (p2 : Int32) (v : Int32 × Unit) (hF : f_X1_number tP p1 p2 = some v) (sz : Nat) :
    (Met l yX1_number wsX1_number RM_X1_number (PC D (TY K) [(aT, .inr (1, [.ref aTc, .ref aTp, .int tL, .int tS, .int tQ, .int tF])), (aTp, .inl (K 3, 240, .inl tP))] [.ref aT, .int p1, .int p2] sz) (QI D (TY K) (wf_X1_number K aT aTc aTp tL tS tQ tF tP) v (va_A [(aT, .inr (1, [.ref aTc, .ref aTp, .int tL, .int tS, .int tQ, .int tF])), (aTp, .inl (K 3, 240, .inl tP))] sz)) MC_X1_number MS_X1_number (va_A [(aT, .inr (1, [.ref aTc, .ref aTp, .int tL, .int tS, .int tQ, .int tF])), (aTp, .inl (K 3, 240, .inl tP))] sz)) := by
  refine pro (Qf := fun A => QI D (TY K) (wf_X1_number K aT aTc aTp tL tS tQ tF tP) v A) (cc := cX1_number) (maxL := 3) (ret := (some .int)) (by decide +kernel) rfl (Nat.le_of_ble_eq_true rfl) ?_
  intro p e s m args below meth c hx hb hr hts hown hlocks hml hini hK A hA hE hP hD hS ls hl
  have hown : s.vm.findClass RX1 = some m.cls := hown
  have hl : lv_has ls 3 [(0, .ref aT), (1, .int p1), (2, .int p2)] := hl
  rw [f_X1_number] at hF
  refine lv_iload_n hx hb dX1_number_0 rfl (lv_at hl 1 rfl) ?_
  refine lv_iload_n hx hb dX1_number_1 rfl (lv_at hl 2 rfl) ?_
  obtain ⟨v1, hv1, hF⟩ := oB hF
  refine call_i (wr := [(aT, .inr (1, [.ref aTc, .ref aTp, .int tL, .int tS, .int tQ, .int tF])), (aTp, .inl (K 3, 240, .inl tP))]) (wn := [(aT, .inr (1, [.ref aTc, .ref aTp, .int tL, .int tS, .int tQ, .int tF])), (aTp, .inl (K 3, 240, .inl tP))]) (va_runS (As := [.int p1, .int p2]) (rest := []) ⟨hx, hb, hml, hown, hts⟩ (c_X1_isPart l D K p1 p2 v1 hv1 s.heap.size) (va_cwS 2 hts gX1_number_X1_isPart rfl rfl rfl (by decide +kernel) ⟨(Nat.le_of_ble_eq_true rfl), (Nat.le_of_ble_eq_true rfl)⟩) (prS hE hK hP hD hS hA [] rfl rfl) rfl rfl hl.1 rfl (lv_room (Nat.le_of_ble_eq_true rfl)) dX1_number_2 ⟨(Nat.le_of_ble_eq_true rfl), (Nat.le_of_ble_eq_true rfl)⟩) hP hD hS hA [] [0, 1] [0, 1] rfl rfl rfl (by decide) rfl rfl (fun H locs hP hD hS => ?_)
  refine lv_if_eq (tgt := 21) hx hb dX1_number_5 (by decide) (fun c2 => ?_) (fun c2 => ?_)
  · have hF := oT c2 hF
    refine lv_iconst (v := (0 : Int32)) hx hb dX1_number_21 (by decide) ?_
    exact fin_i (u := ((0 : Int32), ())) hF hx hb hr hlocks hK hP hD hS (Nat.le_of_ble_eq_true rfl) (Nat.le_of_ble_eq_true rfl) dX1_number_22
  · have hF := oF c2 hF
    refine lv_aload_n hx hb dX1_number_8 rfl (lv_at hl 0 rfl) ?_
    refine va_get (D := D) (ci := 1) (v := .ref aTp) (C := RX1) (T := TX1) (N := 6) hx hb hts (fun _ h => List.mem_cons_of_mem _ (List.mem_append_left _ (List.mem_append_right _ h))) hown hK hP 0 rfl rfl 1 (by decide) (hts (.fieldLink RX1 15 "BarometerClub$CommandText" "parts" "[I") (List.mem_of_getElem? (i := 1) rfl)) (fun _ h9 => h9) rfl dX1_number_9 ?_
    refine lv_iload_n hx hb dX1_number_12 rfl (lv_at hl 1 rfl) ?_
    refine lv_iconst (v := (4 : Int32)) hx hb dX1_number_13 (by decide) ?_
    refine lv_imul hx hb dX1_number_14 ?_
    refine lv_iload_n hx hb dX1_number_15 rfl (lv_at hl 2 rfl) ?_
    refine lv_iadd hx hb dX1_number_16 ?_
    obtain ⟨g3, hF⟩ := oG hF
    refine va_iald hx hb hK hP 1 3 rfl rfl (inB_in g3) dX1_number_17 ?_
    refine lv_goto (tgt := 22) hx hb dX1_number_18 (by decide) ?_
    exact fin_i (u := (tP ((p1 * (4 : Int32)) + p2).toNatClampNeg, ())) hF hx hb hr hlocks hK hP hD hS (Nat.le_of_ble_eq_true rfl) (Nat.le_of_ble_eq_true rfl) dX1_number_22
abbrev RM_X1_kind : Room := { frames := 2, cells := 0, slots := 0, locals := 43 }
abbrev MC_X1_kind : Nat := 0
abbrev MS_X1_kind : Nat := 0
abbrev wf_X1_kind (K : Nat → ClassId) (aT : Nat) (aTc : Nat) (aTp : Nat) (tL : Int32) (tS : Int32) (tQ : Int32) (tF : Int32) (tP : Nat → Int32) (v : Int32 × Unit) : va_W := [(aT, .inr (1, [.ref aTc, .ref aTp, .int tL, .int tS, .int tQ, .int tF])), (aTp, .inl (K 3, 240, .inl tP))]
set_option maxHeartbeats 4000000 in
set_option maxRecDepth 100000 in
theorem c_X1_kind (l : Launch) (D : va_G) (K : Nat → ClassId) (aT : Nat) (aTc : Nat) (aTp : Nat) (tL : Int32) (tS : Int32) (tQ : Int32) (tF : Int32) (tP : Nat → Int32) (p1 : Int32) (v : Int32 × Unit) (hF : f_X1_kind tP p1 = some v) (sz : Nat) :
    (Met l yX1_kind wsX1_kind RM_X1_kind (PC D (TY K) [(aT, .inr (1, [.ref aTc, .ref aTp, .int tL, .int tS, .int tQ, .int tF])), (aTp, .inl (K 3, 240, .inl tP))] [.ref aT, .int p1] sz) (QI D (TY K) (wf_X1_kind K aT aTc aTp tL tS tQ tF tP) v (va_A [(aT, .inr (1, [.ref aTc, .ref aTp, .int tL, .int tS, .int tQ, .int tF])), (aTp, .inl (K 3, 240, .inl tP))] sz)) MC_X1_kind MS_X1_kind (va_A [(aT, .inr (1, [.ref aTc, .ref aTp, .int tL, .int tS, .int tQ, .int tF])), (aTp, .inl (K 3, 240, .inl tP))] sz)) := by
  refine pro (Qf := fun A => QI D (TY K) (wf_X1_kind K aT aTc aTp tL tS tQ tF tP) v A) (cc := cX1_kind) (maxL := 2) (ret := (some .int)) (by decide +kernel) rfl (Nat.le_of_ble_eq_true rfl) ?_
  intro p e s m args below meth c hx hb hr hts hown hlocks hml hini hK A hA hE hP hD hS ls hl
  have hown : s.vm.findClass RX1 = some m.cls := hown
  have hl : lv_has ls 2 [(0, .ref aT), (1, .int p1)] := hl
  rw [f_X1_kind] at hF
  refine lv_aload_n hx hb dX1_kind_0 rfl (lv_at hl 0 rfl) ?_
  refine lv_iload_n hx hb dX1_kind_1 rfl (lv_at hl 1 rfl) ?_
  refine lv_iconst (v := (0 : Int32)) hx hb dX1_kind_2 (by decide) ?_
  obtain ⟨v1, hv1, hF⟩ := oB hF
  refine call_i (wr := []) (wn := [(aT, .inr (1, [.ref aTc, .ref aTp, .int tL, .int tS, .int tQ, .int tF])), (aTp, .inl (K 3, 240, .inl tP))]) (va_runV (As := [.int p1, .int (0 : Int32)]) (rest := []) ⟨hx, hb, hml, hown, hts⟩ (c_X1_number l D K aT aTc aTp tL tS tQ tF tP p1 (0 : Int32) v1 hv1 s.heap.size) (cwV 2 hts gX1_kind_X1_number rfl rfl rfl (by decide +kernel) ⟨(Nat.le_of_ble_eq_true rfl), (Nat.le_of_ble_eq_true rfl)⟩) (prV hE hK hP hD hS hA [0, 1] rfl rfl 1 0 rfl rfl rfl) rfl rfl hl.1 rfl (lv_room (Nat.le_of_ble_eq_true rfl)) dX1_kind_3 ⟨(Nat.le_of_ble_eq_true rfl), (Nat.le_of_ble_eq_true rfl)⟩) hP hD hS hA [0, 1] [] [0, 1] rfl rfl rfl (by decide) rfl rfl (fun H locs hP hD hS => ?_)
  exact fin_i (u := (v1.1, ())) hF hx hb hr hlocks hK hP hD hS (Nat.le_of_ble_eq_true rfl) (Nat.le_of_ble_eq_true rfl) dX1_kind_6
abbrev RM_X1_setNumber : Room := { frames := 1, cells := 0, slots := 0, locals := 21 }
abbrev MC_X1_setNumber : Nat := 0
abbrev MS_X1_setNumber : Nat := 0
abbrev wf_X1_setNumber (K : Nat → ClassId) (aT : Nat) (aTc : Nat) (aTp : Nat) (tL : Int32) (tS : Int32) (tQ : Int32) (tF : Int32) (v : (Nat → Int32)) : va_W := [(aT, .inr (1, [.ref aTc, .ref aTp, .int tL, .int tS, .int tQ, .int tF])), (aTp, .inl (K 3, 240, .inl v))]
set_option maxHeartbeats 4000000 in
set_option maxRecDepth 100000 in
theorem c_X1_setNumber (l : Launch) (D : va_G) (K : Nat → ClassId) (aT : Nat) (aTc : Nat) (aTp : Nat) (tL : Int32) (tS : Int32) (tQ : Int32) (tF : Int32) (tP : Nat → Int32) (p1 : Int32) (p2 : Int32) (p3 : Int32) (v : (Nat → Int32)) (hF : f_X1_setNumber tP p1 p2 p3 = some v) (sz : Nat) :
    (Met l yX1_setNumber wsX1_setNumber RM_X1_setNumber (PC D (TY K) [(aT, .inr (1, [.ref aTc, .ref aTp, .int tL, .int tS, .int tQ, .int tF])), (aTp, .inl (K 3, 240, .inl tP))] [.ref aT, .int p1, .int p2, .int p3] sz) (QV D (TY K) (wf_X1_setNumber K aT aTc aTp tL tS tQ tF) v (va_A [(aT, .inr (1, [.ref aTc, .ref aTp, .int tL, .int tS, .int tQ, .int tF])), (aTp, .inl (K 3, 240, .inl tP))] sz)) MC_X1_setNumber MS_X1_setNumber (va_A [(aT, .inr (1, [.ref aTc, .ref aTp, .int tL, .int tS, .int tQ, .int tF])), (aTp, .inl (K 3, 240, .inl tP))] sz)) := by
  refine pro (Qf := fun A => QV D (TY K) (wf_X1_setNumber K aT aTc aTp tL tS tQ tF) v A) (cc := cX1_setNumber) (maxL := 4) (ret := none) (by decide +kernel) rfl (Nat.le_of_ble_eq_true rfl) ?_
  intro p e s m args below meth c hx hb hr hts hown hlocks hml hini hK A hA hE hP hD hS ls hl
  have hown : s.vm.findClass RX1 = some m.cls := hown
  have hl : lv_has ls 4 [(0, .ref aT), (1, .int p1), (2, .int p2), (3, .int p3)] := hl
  rw [f_X1_setNumber] at hF
  refine lv_iload_n hx hb dX1_setNumber_0 rfl (lv_at hl 1 rfl) ?_
  refine lv_iload_n hx hb dX1_setNumber_1 rfl (lv_at hl 2 rfl) ?_
  obtain ⟨v1, hv1, hF⟩ := oB hF
  refine call_i (wr := [(aT, .inr (1, [.ref aTc, .ref aTp, .int tL, .int tS, .int tQ, .int tF])), (aTp, .inl (K 3, 240, .inl tP))]) (wn := [(aT, .inr (1, [.ref aTc, .ref aTp, .int tL, .int tS, .int tQ, .int tF])), (aTp, .inl (K 3, 240, .inl tP))]) (va_runS (As := [.int p1, .int p2]) (rest := []) ⟨hx, hb, hml, hown, hts⟩ (c_X1_isPart l D K p1 p2 v1 hv1 s.heap.size) (va_cwS 2 hts gX1_setNumber_X1_isPart rfl rfl rfl (by decide +kernel) ⟨(Nat.le_of_ble_eq_true rfl), (Nat.le_of_ble_eq_true rfl)⟩) (prS hE hK hP hD hS hA [] rfl rfl) rfl rfl hl.1 rfl (lv_room (Nat.le_of_ble_eq_true rfl)) dX1_setNumber_2 ⟨(Nat.le_of_ble_eq_true rfl), (Nat.le_of_ble_eq_true rfl)⟩) hP hD hS hA [] [0, 1] [0, 1] rfl rfl rfl (by decide) rfl rfl (fun H locs hP hD hS => ?_)
  refine lv_if_eq (tgt := 19) hx hb dX1_setNumber_5 (by decide) (fun c2 => ?_) (fun c2 => ?_)
  · have hF := oT c2 hF
    exact fin_v (u := tP) hF hx hb hr hlocks hK hP hD hS (Nat.le_of_ble_eq_true rfl) (Nat.le_of_ble_eq_true rfl) dX1_setNumber_19
  · have hF := oF c2 hF
    refine lv_aload_n hx hb dX1_setNumber_8 rfl (lv_at hl 0 rfl) ?_
    refine va_get (D := D) (ci := 1) (v := .ref aTp) (C := RX1) (T := TX1) (N := 6) hx hb hts (fun _ h => List.mem_cons_of_mem _ (List.mem_append_left _ (List.mem_append_right _ h))) hown hK hP 0 rfl rfl 1 (by decide) (hts (.fieldLink RX1 15 "BarometerClub$CommandText" "parts" "[I") (List.mem_of_getElem? (i := 1) rfl)) (fun _ h9 => h9) rfl dX1_setNumber_9 ?_
    refine lv_iload_n hx hb dX1_setNumber_12 rfl (lv_at hl 1 rfl) ?_
    refine lv_iconst (v := (4 : Int32)) hx hb dX1_setNumber_13 (by decide) ?_
    refine lv_imul hx hb dX1_setNumber_14 ?_
    refine lv_iload_n hx hb dX1_setNumber_15 rfl (lv_at hl 2 rfl) ?_
    refine lv_iadd hx hb dX1_setNumber_16 ?_
    refine lv_iload_n hx hb dX1_setNumber_17 rfl (lv_at hl 3 rfl) ?_
    obtain ⟨g3, hF⟩ := oG hF
    refine va_iast hx hb hK hP hD hS 1 3 rfl rfl (inB_in g3) dX1_setNumber_18 (fun H locs hP hD hS => ?_)
    have hP : va_P D vwC7 [(aT, .inr (1, [.ref aTc, .ref aTp, .int tL, .int tS, .int tQ, .int tF])), (aTp, .inl (K 3, 240, .inl (upd tP ((p1 * (4 : Int32)) + p2).toNatClampNeg p3)))] H := hP
    have hD : va_D A [(aT, .inr (1, [.ref aTc, .ref aTp, .int tL, .int tS, .int tQ, .int tF])), (aTp, .inl (K 3, 240, .inl (upd tP ((p1 * (4 : Int32)) + p2).toNatClampNeg p3)))] := hD
    exact fin_v (u := upd tP ((p1 * (4 : Int32)) + p2).toNatClampNeg p3) hF hx hb hr hlocks hK hP hD hS (Nat.le_of_ble_eq_true rfl) (Nat.le_of_ble_eq_true rfl) dX1_setNumber_19
abbrev RM_X1_here : Room := { frames := 0, cells := 0, slots := 0, locals := 0 }
abbrev MC_X1_here : Nat := 0
abbrev MS_X1_here : Nat := 0
abbrev wf_X1_here (K : Nat → ClassId) (aT : Nat) (aTc : Nat) (aTp : Nat) (tL : Int32) (tS : Int32) (tQ : Int32) (tF : Int32) (tC : Nat → Int32) (v : Int32 × Unit) : va_W := [(aT, .inr (1, [.ref aTc, .ref aTp, .int tL, .int tS, .int tQ, .int tF])), (aTc, .inl (K 2, 60, .inl tC))]
set_option maxHeartbeats 4000000 in
set_option maxRecDepth 100000 in
theorem c_X1_here (l : Launch) (D : va_G) (K : Nat → ClassId) (aT : Nat) (aTc : Nat) (aTp : Nat) (tL : Int32) (tS : Int32) (tQ : Int32) (tF : Int32) (tC : Nat → Int32)  (v : Int32 × Unit) (hF : f_X1_here tL tQ tC = some v) (sz : Nat) :
    (Met l yX1_here wsX1_here RM_X1_here (PC D (TY K) [(aT, .inr (1, [.ref aTc, .ref aTp, .int tL, .int tS, .int tQ, .int tF])), (aTc, .inl (K 2, 60, .inl tC))] [.ref aT] sz) (QI D (TY K) (wf_X1_here K aT aTc aTp tL tS tQ tF tC) v (va_A [(aT, .inr (1, [.ref aTc, .ref aTp, .int tL, .int tS, .int tQ, .int tF])), (aTc, .inl (K 2, 60, .inl tC))] sz)) MC_X1_here MS_X1_here (va_A [(aT, .inr (1, [.ref aTc, .ref aTp, .int tL, .int tS, .int tQ, .int tF])), (aTc, .inl (K 2, 60, .inl tC))] sz)) := by
  refine pro (Qf := fun A => QI D (TY K) (wf_X1_here K aT aTc aTp tL tS tQ tF tC) v A) (cc := cX1_here) (maxL := 2) (ret := (some .char)) (by decide +kernel) rfl (Nat.le_of_ble_eq_true rfl) ?_
  intro p e s m args below meth c hx hb hr hts hown hlocks hml hini hK A hA hE hP hD hS ls hl
  have hown : s.vm.findClass RX1 = some m.cls := hown
  have hl : lv_has ls 2 [(0, .ref aT)] := hl
  rw [f_X1_here] at hF
  refine lv_aload_n hx hb dX1_here_0 rfl (lv_at hl 0 rfl) ?_
  refine va_get (D := D) (ci := 1) (v := .int tQ) (C := RX1) (T := TX1) (N := 6) hx hb hts (fun _ h => List.mem_cons_of_mem _ (List.mem_append_left _ (List.mem_append_right _ h))) hown hK hP 0 rfl rfl 4 (by decide) (hts (.fieldLink RX1 26 "BarometerClub$CommandText" "position" "I") (List.mem_of_getElem? (i := 1) rfl)) (fun _ h9 => h9) rfl dX1_here_1 ?_
  refine lv_if_lt (tgt := 31) hx hb dX1_here_4 (by decide) (fun c1 => ?_) (fun c1 => ?_)
  · have hF := oT c1 hF
    refine lv_iconst (v := (0 : Int32)) hx hb dX1_here_31 (by decide) ?_
    refine lv_istore_n (lv' := [(1, .int (0 : Int32)), (0, .ref aT)]) hx hb dX1_here_32 rfl hl (by decide) rfl (fun ls hl => ?_)
    refine lv_iload_n hx hb dX1_here_33 rfl (lv_at hl 0 rfl) ?_
    refine lv_if_eq (tgt := 49) hx hb dX1_here_34 (by decide) (fun _ => ?_) (fun c9 => absurd (by decide) c9)
    refine lv_iconst (v := (0 : Int32)) hx hb dX1_here_49 (by decide) ?_
    exact fin_z (u := ((0 : Int32), ())) hF (okN_n (ty := .char) (x := (0 : Int32)) (by decide)) hx hb hr hlocks hK hP hD hS (Nat.le_of_ble_eq_true rfl) (Nat.le_of_ble_eq_true rfl) dX1_here_50
  · have hF := oF c1 hF
    refine lv_aload_n hx hb dX1_here_7 rfl (lv_at hl 0 rfl) ?_
    refine va_get (D := D) (ci := 1) (v := .int tQ) (C := RX1) (T := TX1) (N := 6) hx hb hts (fun _ h => List.mem_cons_of_mem _ (List.mem_append_left _ (List.mem_append_right _ h))) hown hK hP 0 rfl rfl 4 (by decide) (hts (.fieldLink RX1 26 "BarometerClub$CommandText" "position" "I") (List.mem_of_getElem? (i := 1) rfl)) (fun _ h9 => h9) rfl dX1_here_8 ?_
    refine lv_aload_n hx hb dX1_here_11 rfl (lv_at hl 0 rfl) ?_
    refine va_get (D := D) (ci := 1) (v := .int tL) (C := RX1) (T := TX1) (N := 6) hx hb hts (fun _ h => List.mem_cons_of_mem _ (List.mem_append_left _ (List.mem_append_right _ h))) hown hK hP 0 rfl rfl 2 (by decide) (hts (.fieldLink RX1 19 "BarometerClub$CommandText" "length" "I") (List.mem_of_getElem? (i := 2) rfl)) (fun _ h9 => h9) rfl dX1_here_12 ?_
    refine lv_icmp_ge (tgt := 31) hx hb dX1_here_15 (by decide) (fun c3 => ?_) (fun c3 => ?_)
    · have hF := oT c3 hF
      refine lv_iconst (v := (0 : Int32)) hx hb dX1_here_31 (by decide) ?_
      refine lv_istore_n (lv' := [(1, .int (0 : Int32)), (0, .ref aT)]) hx hb dX1_here_32 rfl hl (by decide) rfl (fun ls hl => ?_)
      refine lv_iload_n hx hb dX1_here_33 rfl (lv_at hl 0 rfl) ?_
      refine lv_if_eq (tgt := 49) hx hb dX1_here_34 (by decide) (fun _ => ?_) (fun c9 => absurd (by decide) c9)
      refine lv_iconst (v := (0 : Int32)) hx hb dX1_here_49 (by decide) ?_
      exact fin_z (u := ((0 : Int32), ())) hF (okN_n (ty := .char) (x := (0 : Int32)) (by decide)) hx hb hr hlocks hK hP hD hS (Nat.le_of_ble_eq_true rfl) (Nat.le_of_ble_eq_true rfl) dX1_here_50
    · have hF := oF c3 hF
      refine lv_aload_n hx hb dX1_here_18 rfl (lv_at hl 0 rfl) ?_
      refine va_get (D := D) (ci := 1) (v := .int tQ) (C := RX1) (T := TX1) (N := 6) hx hb hts (fun _ h => List.mem_cons_of_mem _ (List.mem_append_left _ (List.mem_append_right _ h))) hown hK hP 0 rfl rfl 4 (by decide) (hts (.fieldLink RX1 26 "BarometerClub$CommandText" "position" "I") (List.mem_of_getElem? (i := 1) rfl)) (fun _ h9 => h9) rfl dX1_here_19 ?_
      refine lv_bipush (v := (60 : Int32)) hx hb dX1_here_22 (by decide) ?_
      refine lv_icmp_ge (tgt := 31) hx hb dX1_here_24 (by decide) (fun c5 => ?_) (fun c5 => ?_)
      · have hF := oT c5 hF
        refine lv_iconst (v := (0 : Int32)) hx hb dX1_here_31 (by decide) ?_
        refine lv_istore_n (lv' := [(1, .int (0 : Int32)), (0, .ref aT)]) hx hb dX1_here_32 rfl hl (by decide) rfl (fun ls hl => ?_)
        refine lv_iload_n hx hb dX1_here_33 rfl (lv_at hl 0 rfl) ?_
        refine lv_if_eq (tgt := 49) hx hb dX1_here_34 (by decide) (fun _ => ?_) (fun c9 => absurd (by decide) c9)
        refine lv_iconst (v := (0 : Int32)) hx hb dX1_here_49 (by decide) ?_
        exact fin_z (u := ((0 : Int32), ())) hF (okN_n (ty := .char) (x := (0 : Int32)) (by decide)) hx hb hr hlocks hK hP hD hS (Nat.le_of_ble_eq_true rfl) (Nat.le_of_ble_eq_true rfl) dX1_here_50
      · have hF := oF c5 hF
        refine lv_iconst (v := (1 : Int32)) hx hb dX1_here_27 (by decide) ?_
        refine lv_goto (tgt := 32) hx hb dX1_here_28 (by decide) ?_
        refine lv_istore_n (lv' := [(1, .int (1 : Int32)), (0, .ref aT)]) hx hb dX1_here_32 rfl hl (by decide) rfl (fun ls hl => ?_)
        refine lv_iload_n hx hb dX1_here_33 rfl (lv_at hl 0 rfl) ?_
        refine lv_if_eq (tgt := 49) hx hb dX1_here_34 (by decide) (fun c9 => absurd c9 (by decide)) (fun _ => ?_)
        refine lv_aload_n hx hb dX1_here_37 rfl (lv_at hl 1 rfl) ?_
        refine va_get (D := D) (ci := 1) (v := .ref aTc) (C := RX1) (T := TX1) (N := 6) hx hb hts (fun _ h => List.mem_cons_of_mem _ (List.mem_append_left _ (List.mem_append_right _ h))) hown hK hP 0 rfl rfl 0 (by decide) (hts (.fieldLink RX1 11 "BarometerClub$CommandText" "characters" "[C") (List.mem_of_getElem? (i := 3) rfl)) (fun _ h9 => h9) rfl dX1_here_38 ?_
        refine lv_aload_n hx hb dX1_here_41 rfl (lv_at hl 1 rfl) ?_
        refine va_get (D := D) (ci := 1) (v := .int tQ) (C := RX1) (T := TX1) (N := 6) hx hb hts (fun _ h => List.mem_cons_of_mem _ (List.mem_append_left _ (List.mem_append_right _ h))) hown hK hP 0 rfl rfl 4 (by decide) (hts (.fieldLink RX1 26 "BarometerClub$CommandText" "position" "I") (List.mem_of_getElem? (i := 1) rfl)) (fun _ h9 => h9) rfl dX1_here_42 ?_
        obtain ⟨g8, hF⟩ := oG hF
        refine va_cald hx hb hK hP 1 2 rfl rfl (inB_in g8) dX1_here_45 ?_
        refine lv_goto (tgt := 50) hx hb dX1_here_46 (by decide) ?_
        obtain ⟨g9, hF⟩ := oG hF
        exact fin_z (u := (tC tQ.toNatClampNeg, ())) hF (okN_n g9) hx hb hr hlocks hK hP hD hS (Nat.le_of_ble_eq_true rfl) (Nat.le_of_ble_eq_true rfl) dX1_here_50
abbrev RM_X1_isKind : Room := { frames := 0, cells := 0, slots := 0, locals := 0 }
abbrev MC_X1_isKind : Nat := 0
abbrev MS_X1_isKind : Nat := 0
abbrev wf_X1_isKind (K : Nat → ClassId)   (v : Int32 × Unit) : va_W := []
set_option maxHeartbeats 4000000 in
set_option maxRecDepth 100000 in
theorem c_X1_isKind (l : Launch) (D : va_G) (K : Nat → ClassId)   (p1 : Int32) (v : Int32 × Unit) (hF : f_X1_isKind p1 = some v) (sz : Nat) :
    (Met l yX1_isKind wsX1_isKind RM_X1_isKind (PC D (TY K) [] [.int p1] sz) (QI D (TY K) (wf_X1_isKind K) v (va_A [] sz)) MC_X1_isKind MS_X1_isKind (va_A [] sz)) := by
  refine pro (Qf := fun A => QI D (TY K) (wf_X1_isKind K) v A) (cc := cX1_isKind) (maxL := 1) (ret := (some .boolean)) (by decide +kernel) rfl (Nat.le_of_ble_eq_true rfl) ?_
  intro p e s m args below meth c hx hb hr hts hown hlocks hml hini hK A hA hE hP hD hS ls hl
  have hown : s.vm.findClass RX1 = some m.cls := hown
  have hl : lv_has ls 1 [(0, .int p1)] := hl
  rw [f_X1_isKind] at hF
  refine lv_iload_n hx hb dX1_isKind_0 rfl (lv_at hl 0 rfl) ?_
  by_cases c1 : p1 = (98 : Int32)
  · have hF := oT c1 hF
    refine lv_tableIn (off := 107) (tgt := 108) hx hb dX1_isKind_1 (by rw [c1]; decide) (by rw [c1]; decide) (by rw [c1]; rfl) (by decide) ?_
    refine lv_iconst (v := (1 : Int32)) hx hb dX1_isKind_108 (by decide) ?_
    exact fin_z (u := ((1 : Int32), ())) hF (okN_n (ty := .boolean) (x := (1 : Int32)) (by decide)) hx hb hr hlocks hK hP hD hS (Nat.le_of_ble_eq_true rfl) (Nat.le_of_ble_eq_true rfl) dX1_isKind_109
  have hF := oF c1 hF
  by_cases c2 : p1 = (100 : Int32)
  · have hF := oT c2 hF
    refine lv_tableIn (off := 107) (tgt := 108) hx hb dX1_isKind_1 (by rw [c2]; decide) (by rw [c2]; decide) (by rw [c2]; rfl) (by decide) ?_
    refine lv_iconst (v := (1 : Int32)) hx hb dX1_isKind_108 (by decide) ?_
    exact fin_z (u := ((1 : Int32), ())) hF (okN_n (ty := .boolean) (x := (1 : Int32)) (by decide)) hx hb hr hlocks hK hP hD hS (Nat.le_of_ble_eq_true rfl) (Nat.le_of_ble_eq_true rfl) dX1_isKind_109
  have hF := oF c2 hF
  by_cases c3 : p1 = (106 : Int32)
  · have hF := oT c3 hF
    refine lv_tableIn (off := 107) (tgt := 108) hx hb dX1_isKind_1 (by rw [c3]; decide) (by rw [c3]; decide) (by rw [c3]; rfl) (by decide) ?_
    refine lv_iconst (v := (1 : Int32)) hx hb dX1_isKind_108 (by decide) ?_
    exact fin_z (u := ((1 : Int32), ())) hF (okN_n (ty := .boolean) (x := (1 : Int32)) (by decide)) hx hb hr hlocks hK hP hD hS (Nat.le_of_ble_eq_true rfl) (Nat.le_of_ble_eq_true rfl) dX1_isKind_109
  have hF := oF c3 hF
  by_cases c4 : p1 = (109 : Int32)
  · have hF := oT c4 hF
    refine lv_tableIn (off := 107) (tgt := 108) hx hb dX1_isKind_1 (by rw [c4]; decide) (by rw [c4]; decide) (by rw [c4]; rfl) (by decide) ?_
    refine lv_iconst (v := (1 : Int32)) hx hb dX1_isKind_108 (by decide) ?_
    exact fin_z (u := ((1 : Int32), ())) hF (okN_n (ty := .boolean) (x := (1 : Int32)) (by decide)) hx hb hr hlocks hK hP hD hS (Nat.le_of_ble_eq_true rfl) (Nat.le_of_ble_eq_true rfl) dX1_isKind_109
  have hF := oF c4 hF
  by_cases c5 : p1 = (111 : Int32)
  · have hF := oT c5 hF
    refine lv_tableIn (off := 107) (tgt := 108) hx hb dX1_isKind_1 (by rw [c5]; decide) (by rw [c5]; decide) (by rw [c5]; rfl) (by decide) ?_
    refine lv_iconst (v := (1 : Int32)) hx hb dX1_isKind_108 (by decide) ?_
    exact fin_z (u := ((1 : Int32), ())) hF (okN_n (ty := .boolean) (x := (1 : Int32)) (by decide)) hx hb hr hlocks hK hP hD hS (Nat.le_of_ble_eq_true rfl) (Nat.le_of_ble_eq_true rfl) dX1_isKind_109
  have hF := oF c5 hF
  by_cases c6 : p1 = (114 : Int32)
  · have hF := oT c6 hF
    refine lv_tableIn (off := 107) (tgt := 108) hx hb dX1_isKind_1 (by rw [c6]; decide) (by rw [c6]; decide) (by rw [c6]; rfl) (by decide) ?_
    refine lv_iconst (v := (1 : Int32)) hx hb dX1_isKind_108 (by decide) ?_
    exact fin_z (u := ((1 : Int32), ())) hF (okN_n (ty := .boolean) (x := (1 : Int32)) (by decide)) hx hb hr hlocks hK hP hD hS (Nat.le_of_ble_eq_true rfl) (Nat.le_of_ble_eq_true rfl) dX1_isKind_109
  have hF := oF c6 hF
  by_cases c7 : p1 = (115 : Int32)
  · have hF := oT c7 hF
    refine lv_tableIn (off := 107) (tgt := 108) hx hb dX1_isKind_1 (by rw [c7]; decide) (by rw [c7]; decide) (by rw [c7]; rfl) (by decide) ?_
    refine lv_iconst (v := (1 : Int32)) hx hb dX1_isKind_108 (by decide) ?_
    exact fin_z (u := ((1 : Int32), ())) hF (okN_n (ty := .boolean) (x := (1 : Int32)) (by decide)) hx hb hr hlocks hK hP hD hS (Nat.le_of_ble_eq_true rfl) (Nat.le_of_ble_eq_true rfl) dX1_isKind_109
  have hF := oF c7 hF
  by_cases c8 : p1 = (116 : Int32)
  · have hF := oT c8 hF
    refine lv_tableIn (off := 107) (tgt := 108) hx hb dX1_isKind_1 (by rw [c8]; decide) (by rw [c8]; decide) (by rw [c8]; rfl) (by decide) ?_
    refine lv_iconst (v := (1 : Int32)) hx hb dX1_isKind_108 (by decide) ?_
    exact fin_z (u := ((1 : Int32), ())) hF (okN_n (ty := .boolean) (x := (1 : Int32)) (by decide)) hx hb hr hlocks hK hP hD hS (Nat.le_of_ble_eq_true rfl) (Nat.le_of_ble_eq_true rfl) dX1_isKind_109
  have hF := oF c8 hF
  by_cases c9 : p1 = (119 : Int32)
  · have hF := oT c9 hF
    refine lv_tableIn (off := 107) (tgt := 108) hx hb dX1_isKind_1 (by rw [c9]; decide) (by rw [c9]; decide) (by rw [c9]; rfl) (by decide) ?_
    refine lv_iconst (v := (1 : Int32)) hx hb dX1_isKind_108 (by decide) ?_
    exact fin_z (u := ((1 : Int32), ())) hF (okN_n (ty := .boolean) (x := (1 : Int32)) (by decide)) hx hb hr hlocks hK hP hD hS (Nat.le_of_ble_eq_true rfl) (Nat.le_of_ble_eq_true rfl) dX1_isKind_109
  have hF := oF c9 hF
  by_cases c10 : p1 = (120 : Int32)
  · have hF := oT c10 hF
    refine lv_tableIn (off := 107) (tgt := 108) hx hb dX1_isKind_1 (by rw [c10]; decide) (by rw [c10]; decide) (by rw [c10]; rfl) (by decide) ?_
    refine lv_iconst (v := (1 : Int32)) hx hb dX1_isKind_108 (by decide) ?_
    exact fin_z (u := ((1 : Int32), ())) hF (okN_n (ty := .boolean) (x := (1 : Int32)) (by decide)) hx hb hr hlocks hK hP hD hS (Nat.le_of_ble_eq_true rfl) (Nat.le_of_ble_eq_true rfl) dX1_isKind_109
  have hF := oF c10 hF
  refine tsw_d (ks := ([98, 100, 106, 109, 111, 114, 115, 116, 119, 120] : List Int)) (tgt := 110) hx hb dX1_isKind_1 (by decide) (by decide) (List.forall_mem_cons.mpr ⟨lv_neT c1 rfl, List.forall_mem_cons.mpr ⟨lv_neT c2 rfl, List.forall_mem_cons.mpr ⟨lv_neT c3 rfl, List.forall_mem_cons.mpr ⟨lv_neT c4 rfl, List.forall_mem_cons.mpr ⟨lv_neT c5 rfl, List.forall_mem_cons.mpr ⟨lv_neT c6 rfl, List.forall_mem_cons.mpr ⟨lv_neT c7 rfl, List.forall_mem_cons.mpr ⟨lv_neT c8 rfl, List.forall_mem_cons.mpr ⟨lv_neT c9 rfl, List.forall_mem_cons.mpr ⟨lv_neT c10 rfl, fun _ h9 => absurd h9 List.not_mem_nil⟩⟩⟩⟩⟩⟩⟩⟩⟩⟩) (by decide) ?_
  refine lv_iconst (v := (0 : Int32)) hx hb dX1_isKind_110 (by decide) ?_
  exact fin_z (u := ((0 : Int32), ())) hF (okN_n (ty := .boolean) (x := (0 : Int32)) (by decide)) hx hb hr hlocks hK hP hD hS (Nat.le_of_ble_eq_true rfl) (Nat.le_of_ble_eq_true rfl) dX1_isKind_111
abbrev RM_X1_markFault : Room := { frames := 0, cells := 0, slots := 0, locals := 0 }
abbrev MC_X1_markFault : Nat := 0
abbrev MS_X1_markFault : Nat := 0
abbrev wf_X1_markFault (K : Nat → ClassId) (aT : Nat) (aTc : Nat) (aTp : Nat) (tL : Int32) (tS : Int32) (tQ : Int32) (v : Int32) : va_W := [(aT, .inr (1, [.ref aTc, .ref aTp, .int tL, .int tS, .int tQ, .int v]))]
set_option maxHeartbeats 4000000 in
set_option maxRecDepth 100000 in
theorem c_X1_markFault (l : Launch) (D : va_G) (K : Nat → ClassId) (aT : Nat) (aTc : Nat) (aTp : Nat) (tL : Int32) (tS : Int32) (tQ : Int32) (tF : Int32)  (v : Int32) (hF : f_X1_markFault tQ tF = some v) (sz : Nat) :
    (Met l yX1_markFault wsX1_markFault RM_X1_markFault (PC D (TY K) [(aT, .inr (1, [.ref aTc, .ref aTp, .int tL, .int tS, .int tQ, .int tF]))] [.ref aT] sz) (QV D (TY K) (wf_X1_markFault K aT aTc aTp tL tS tQ) v (va_A [(aT, .inr (1, [.ref aTc, .ref aTp, .int tL, .int tS, .int tQ, .int tF]))] sz)) MC_X1_markFault MS_X1_markFault (va_A [(aT, .inr (1, [.ref aTc, .ref aTp, .int tL, .int tS, .int tQ, .int tF]))] sz)) := by
  refine pro (Qf := fun A => QV D (TY K) (wf_X1_markFault K aT aTc aTp tL tS tQ) v A) (cc := cX1_markFault) (maxL := 1) (ret := none) (by decide +kernel) rfl (Nat.le_of_ble_eq_true rfl) ?_
  intro p e s m args below meth c hx hb hr hts hown hlocks hml hini hK A hA hE hP hD hS ls hl
  have hown : s.vm.findClass RX1 = some m.cls := hown
  have hl : lv_has ls 1 [(0, .ref aT)] := hl
  rw [f_X1_markFault] at hF
  refine lv_aload_n hx hb dX1_markFault_0 rfl (lv_at hl 0 rfl) ?_
  refine va_get (D := D) (ci := 1) (v := .int tF) (C := RX1) (T := TX1) (N := 6) hx hb hts (fun _ h => List.mem_cons_of_mem _ (List.mem_append_right _ h)) hown hK hP 0 rfl rfl 5 (by decide) (hts (.fieldLink RX1 29 "BarometerClub$CommandText" "fault" "I") (List.mem_of_getElem? (i := 1) rfl)) (fun _ h9 => h9) rfl dX1_markFault_1 ?_
  refine lv_iconst (v := (-1 : Int32)) hx hb dX1_markFault_4 (by decide) ?_
  refine lv_icmp_ne (tgt := 16) hx hb dX1_markFault_5 (by decide) (fun c1 => ?_) (fun c1 => ?_)
  · have hF := oF c1 hF
    exact fin_v (u := tF) hF hx hb hr hlocks hK hP hD hS (Nat.le_of_ble_eq_true rfl) (Nat.le_of_ble_eq_true rfl) dX1_markFault_16
  · have hF := oT c1 hF
    refine lv_aload_n hx hb dX1_markFault_8 rfl (lv_at hl 0 rfl) ?_
    refine lv_aload_n hx hb dX1_markFault_9 rfl (lv_at hl 0 rfl) ?_
    refine va_get (D := D) (ci := 1) (v := .int tQ) (C := RX1) (T := TX1) (N := 6) hx hb hts (fun _ h => List.mem_cons_of_mem _ (List.mem_append_right _ h)) hown hK hP 0 rfl rfl 4 (by decide) (hts (.fieldLink RX1 26 "BarometerClub$CommandText" "position" "I") (List.mem_of_getElem? (i := 2) rfl)) (fun _ h9 => h9) rfl dX1_markFault_10 ?_
    refine va_put (D := D) (ci := 1) (v := .int tQ) (ty := .int) (C := RX1) (T := TX1) (N := 6) hx hb hts (fun _ h => List.mem_cons_of_mem _ (List.mem_append_right _ h)) tyX1 tyX1_ok nmX1 hown hK hP hD hS 0 rfl rfl 5 (by decide) (hts (.fieldLink RX1 29 "BarometerClub$CommandText" "fault" "I") (List.mem_of_getElem? (i := 1) rfl)) (fun _ h9 => h9) rfl (by decide +kernel) rfl rfl (Nat.le_of_ble_eq_true rfl) dX1_markFault_13 (fun H locs hP hD hS => ?_)
    have hP : va_P D vwC7 [(aT, .inr (1, [.ref aTc, .ref aTp, .int tL, .int tS, .int tQ, .int tQ]))] H := hP
    have hD : va_D A [(aT, .inr (1, [.ref aTc, .ref aTp, .int tL, .int tS, .int tQ, .int tQ]))] := hD
    exact fin_v (u := tQ) hF hx hb hr hlocks hK hP hD hS (Nat.le_of_ble_eq_true rfl) (Nat.le_of_ble_eq_true rfl) dX1_markFault_16
abbrev RM_X1_scanSign : Room := { frames := 1, cells := 0, slots := 0, locals := 21 }
abbrev MC_X1_scanSign : Nat := 0
abbrev MS_X1_scanSign : Nat := 0
abbrev wf_X1_scanSign (K : Nat → ClassId) (aT : Nat) (aTc : Nat) (aTp : Nat) (tL : Int32) (tS : Int32) (tC : Nat → Int32) (v : Int32 × Int32) : va_W := [(aT, .inr (1, [.ref aTc, .ref aTp, .int tL, .int tS, .int v.1, .int v.2])), (aTc, .inl (K 2, 60, .inl tC))]
set_option maxHeartbeats 4000000 in
set_option maxRecDepth 100000 in
theorem c_X1_scanSign (l : Launch) (D : va_G) (K : Nat → ClassId) (aT : Nat) (aTc : Nat) (aTp : Nat) (tL : Int32) (tS : Int32) (tQ : Int32) (tF : Int32) (tC : Nat → Int32) (p1 : Int32) (v : Int32 × Int32) (hF : f_X1_scanSign tL tQ tF tC p1 = some v) (sz : Nat) :
    (Met l yX1_scanSign wsX1_scanSign RM_X1_scanSign (PC D (TY K) [(aT, .inr (1, [.ref aTc, .ref aTp, .int tL, .int tS, .int tQ, .int tF])), (aTc, .inl (K 2, 60, .inl tC))] [.ref aT, .int p1] sz) (QV D (TY K) (wf_X1_scanSign K aT aTc aTp tL tS tC) v (va_A [(aT, .inr (1, [.ref aTc, .ref aTp, .int tL, .int tS, .int tQ, .int tF])), (aTc, .inl (K 2, 60, .inl tC))] sz)) MC_X1_scanSign MS_X1_scanSign (va_A [(aT, .inr (1, [.ref aTc, .ref aTp, .int tL, .int tS, .int tQ, .int tF])), (aTc, .inl (K 2, 60, .inl tC))] sz)) := by
  refine pro (Qf := fun A => QV D (TY K) (wf_X1_scanSign K aT aTc aTp tL tS tC) v A) (cc := cX1_scanSign) (maxL := 2) (ret := none) (by decide +kernel) rfl (Nat.le_of_ble_eq_true rfl) ?_
  intro p e s m args below meth c hx hb hr hts hown hlocks hml hini hK A hA hE hP hD hS ls hl
  have hown : s.vm.findClass RX1 = some m.cls := hown
  have hl : lv_has ls 2 [(0, .ref aT), (1, .int p1)] := hl
  rw [f_X1_scanSign] at hF
  refine lv_aload_n hx hb dX1_scanSign_0 rfl (lv_at hl 0 rfl) ?_
  obtain ⟨v1, hv1, hF⟩ := oB hF
  refine call_i (wr := []) (wn := [(aT, .inr (1, [.ref aTc, .ref aTp, .int tL, .int tS, .int tQ, .int tF])), (aTc, .inl (K 2, 60, .inl tC))]) (va_runV (As := []) (rest := []) ⟨hx, hb, hml, hown, hts⟩ (c_X1_here l D K aT aTc aTp tL tS tQ tF tC v1 hv1 s.heap.size) (cwV 0 hts gX1_scanSign_X1_here rfl rfl rfl (by decide +kernel) ⟨(Nat.le_of_ble_eq_true rfl), (Nat.le_of_ble_eq_true rfl)⟩) (prV hE hK hP hD hS hA [0, 1] rfl rfl 1 0 rfl rfl rfl) rfl rfl hl.1 rfl (lv_room (Nat.le_of_ble_eq_true rfl)) dX1_scanSign_1 ⟨(Nat.le_of_ble_eq_true rfl), (Nat.le_of_ble_eq_true rfl)⟩) hP hD hS hA [0, 1] [] [0, 1] rfl rfl rfl (by decide) rfl rfl (fun H locs hP hD hS => ?_)
  refine lv_iload_n hx hb dX1_scanSign_4 rfl (lv_at hl 1 rfl) ?_
  refine lv_icmp_ne (tgt := 21) hx hb dX1_scanSign_5 (by decide) (fun c2 => ?_) (fun c2 => ?_)
  · have hF := oF c2 hF
    refine lv_aload_n hx hb dX1_scanSign_21 rfl (lv_at hl 0 rfl) ?_
    obtain ⟨v3, hv3, hF⟩ := oB hF
    refine call_v (wr := [(aTc, .inl (K 2, 60, .inl tC))]) (wn := [(aT, .inr (1, [.ref aTc, .ref aTp, .int tL, .int tS, .int tQ, .int v3])), (aTc, .inl (K 2, 60, .inl tC))]) (va_runV (As := []) (rest := []) ⟨hx, hb, hml, hown, hts⟩ (c_X1_markFault l D K aT aTc aTp tL tS tQ tF v3 hv3 H.size) (cwV 0 hts gX1_scanSign_X1_markFault rfl rfl rfl (by decide +kernel) ⟨(Nat.le_of_ble_eq_true rfl), (Nat.le_of_ble_eq_true rfl)⟩) (prV hE hK hP hD hS hA [0] rfl rfl 1 0 rfl rfl rfl) rfl rfl hl.1 rfl (lv_room (Nat.le_of_ble_eq_true rfl)) dX1_scanSign_22 ⟨(Nat.le_of_ble_eq_true rfl), (Nat.le_of_ble_eq_true rfl)⟩) hP hD hS hA [0] [1] [1, 0] rfl rfl rfl (by decide) rfl rfl (fun H locs hP hD hS => ?_)
    exact fin_v (u := (tQ, v3)) hF hx hb hr hlocks hK hP hD hS (Nat.le_of_ble_eq_true rfl) (Nat.le_of_ble_eq_true rfl) dX1_scanSign_25
  · have hF := oT c2 hF
    refine lv_aload_n hx hb dX1_scanSign_8 rfl (lv_at hl 0 rfl) ?_
    refine lv_dup hx hb dX1_scanSign_9 rfl ?_
    refine va_get (D := D) (ci := 1) (v := .int tQ) (C := RX1) (T := TX1) (N := 6) hx hb hts (fun _ h => List.mem_cons_of_mem _ (List.mem_append_left _ (List.mem_append_right _ h))) hown hK hP 0 rfl rfl 4 (by decide) (hts (.fieldLink RX1 26 "BarometerClub$CommandText" "position" "I") (List.mem_of_getElem? (i := 1) rfl)) (fun _ h9 => h9) rfl dX1_scanSign_10 ?_
    refine lv_iconst (v := (1 : Int32)) hx hb dX1_scanSign_13 (by decide) ?_
    refine lv_iadd hx hb dX1_scanSign_14 ?_
    refine va_put (D := D) (ci := 1) (v := .int (tQ + (1 : Int32))) (ty := .int) (C := RX1) (T := TX1) (N := 6) hx hb hts (fun _ h => List.mem_cons_of_mem _ (List.mem_append_left _ (List.mem_append_right _ h))) tyX1 tyX1_ok nmX1 hown hK hP hD hS 0 rfl rfl 4 (by decide) (hts (.fieldLink RX1 26 "BarometerClub$CommandText" "position" "I") (List.mem_of_getElem? (i := 1) rfl)) (fun _ h9 => h9) rfl (by decide +kernel) rfl rfl (Nat.le_of_ble_eq_true rfl) dX1_scanSign_15 (fun H locs hP hD hS => ?_)
    have hP : va_P D vwC7 [(aT, .inr (1, [.ref aTc, .ref aTp, .int tL, .int tS, .int (tQ + (1 : Int32)), .int tF])), (aTc, .inl (K 2, 60, .inl tC))] H := hP
    have hD : va_D A [(aT, .inr (1, [.ref aTc, .ref aTp, .int tL, .int tS, .int (tQ + (1 : Int32)), .int tF])), (aTc, .inl (K 2, 60, .inl tC))] := hD
    refine lv_goto (tgt := 25) hx hb dX1_scanSign_18 (by decide) ?_
    exact fin_v (u := (tQ + (1 : Int32), tF)) hF hx hb hr hlocks hK hP hD hS (Nat.le_of_ble_eq_true rfl) (Nat.le_of_ble_eq_true rfl) dX1_scanSign_25
abbrev RM_X1_isDigit : Room := { frames := 0, cells := 0, slots := 0, locals := 0 }
abbrev MC_X1_isDigit : Nat := 0
abbrev MS_X1_isDigit : Nat := 0
abbrev wf_X1_isDigit (K : Nat → ClassId)   (v : Int32 × Unit) : va_W := []
set_option maxHeartbeats 4000000 in
set_option maxRecDepth 100000 in
theorem c_X1_isDigit (l : Launch) (D : va_G) (K : Nat → ClassId)   (p1 : Int32) (v : Int32 × Unit) (hF : f_X1_isDigit p1 = some v) (sz : Nat) :
    (Met l yX1_isDigit wsX1_isDigit RM_X1_isDigit (PC D (TY K) [] [.int p1] sz) (QI D (TY K) (wf_X1_isDigit K) v (va_A [] sz)) MC_X1_isDigit MS_X1_isDigit (va_A [] sz)) := by
  refine pro (Qf := fun A => QI D (TY K) (wf_X1_isDigit K) v A) (cc := cX1_isDigit) (maxL := 1) (ret := (some .boolean)) (by decide +kernel) rfl (Nat.le_of_ble_eq_true rfl) ?_
  intro p e s m args below meth c hx hb hr hts hown hlocks hml hini hK A hA hE hP hD hS ls hl
  have hown : s.vm.findClass RX1 = some m.cls := hown
  have hl : lv_has ls 1 [(0, .int p1)] := hl
  rw [f_X1_isDigit] at hF
  refine lv_iload_n hx hb dX1_isDigit_0 rfl (lv_at hl 0 rfl) ?_
  refine lv_bipush (v := (48 : Int32)) hx hb dX1_isDigit_1 (by decide) ?_
  refine lv_icmp_lt (tgt := 16) hx hb dX1_isDigit_3 (by decide) (fun c1 => ?_) (fun c1 => ?_)
  · have hF := oT c1 hF
    refine lv_iconst (v := (0 : Int32)) hx hb dX1_isDigit_16 (by decide) ?_
    exact fin_z (u := ((0 : Int32), ())) hF (okN_n (ty := .boolean) (x := (0 : Int32)) (by decide)) hx hb hr hlocks hK hP hD hS (Nat.le_of_ble_eq_true rfl) (Nat.le_of_ble_eq_true rfl) dX1_isDigit_17
  · have hF := oF c1 hF
    refine lv_iload_n hx hb dX1_isDigit_6 rfl (lv_at hl 0 rfl) ?_
    refine lv_bipush (v := (57 : Int32)) hx hb dX1_isDigit_7 (by decide) ?_
    refine lv_icmp_gt (tgt := 16) hx hb dX1_isDigit_9 (by decide) (fun c2 => ?_) (fun c2 => ?_)
    · have hF := oT c2 hF
      refine lv_iconst (v := (0 : Int32)) hx hb dX1_isDigit_16 (by decide) ?_
      exact fin_z (u := ((0 : Int32), ())) hF (okN_n (ty := .boolean) (x := (0 : Int32)) (by decide)) hx hb hr hlocks hK hP hD hS (Nat.le_of_ble_eq_true rfl) (Nat.le_of_ble_eq_true rfl) dX1_isDigit_17
    · have hF := oF c2 hF
      refine lv_iconst (v := (1 : Int32)) hx hb dX1_isDigit_12 (by decide) ?_
      refine lv_goto (tgt := 17) hx hb dX1_isDigit_13 (by decide) ?_
      exact fin_z (u := ((1 : Int32), ())) hF (okN_n (ty := .boolean) (x := (1 : Int32)) (by decide)) hx hb hr hlocks hK hP hD hS (Nat.le_of_ble_eq_true rfl) (Nat.le_of_ble_eq_true rfl) dX1_isDigit_17
abbrev RM_X1_scanDigits : Room := { frames := 1, cells := 0, slots := 0, locals := 21 }
abbrev MC_X1_scanDigits : Nat := 0
abbrev MS_X1_scanDigits : Nat := 0
abbrev wf_X1_scanDigits (K : Nat → ClassId) (aT : Nat) (aTc : Nat) (aTp : Nat) (tL : Int32) (tS : Int32) (tC : Nat → Int32) (v : Int32 × Int32 × Int32) : va_W := [(aT, .inr (1, [.ref aTc, .ref aTp, .int tL, .int tS, .int v.2.1, .int v.2.2])), (aTc, .inl (K 2, 60, .inl tC))]
set_option maxHeartbeats 4000000 in
set_option maxRecDepth 100000 in
theorem c_X1_scanDigits (l : Launch) (D : va_G) (K : Nat → ClassId) (aT : Nat) (aTc : Nat) (aTp : Nat) (tL : Int32) (tS : Int32) (tQ : Int32) (tF : Int32) (tC : Nat → Int32) (p1 : Int32) (p2 : Int32) (v : Int32 × Int32 × Int32) (hF : f_X1_scanDigits tL tQ tF tC p1 p2 = some v) (sz : Nat) :
    (Met l yX1_scanDigits wsX1_scanDigits RM_X1_scanDigits (PC D (TY K) [(aT, .inr (1, [.ref aTc, .ref aTp, .int tL, .int tS, .int tQ, .int tF])), (aTc, .inl (K 2, 60, .inl tC))] [.ref aT, .int p1, .int p2] sz) (QI D (TY K) (wf_X1_scanDigits K aT aTc aTp tL tS tC) v (va_A [(aT, .inr (1, [.ref aTc, .ref aTp, .int tL, .int tS, .int tQ, .int tF])), (aTc, .inl (K 2, 60, .inl tC))] sz)) MC_X1_scanDigits MS_X1_scanDigits (va_A [(aT, .inr (1, [.ref aTc, .ref aTp, .int tL, .int tS, .int tQ, .int tF])), (aTc, .inl (K 2, 60, .inl tC))] sz)) := by
  refine pro (Qf := fun A => QI D (TY K) (wf_X1_scanDigits K aT aTc aTp tL tS tC) v A) (cc := cX1_scanDigits) (maxL := 5) (ret := (some .int)) (by decide +kernel) rfl (Nat.le_of_ble_eq_true rfl) ?_
  intro p e s m args below meth c hx hb hr hts hown hlocks hml hini hK A hA hE hP hD hS ls hl
  have hown : s.vm.findClass RX1 = some m.cls := hown
  have hl : lv_has ls 5 [(0, .ref aT), (1, .int p1), (2, .int p2)] := hl
  have loop_5 : ∀ (y5_1 : Int32) (y5_2 : Int32) (tF_5 : Int32) (n : Nat) (y5_3 : Int32) (y5_4 : Int32) (tQ_5 : Int32), f_X1_scanDigits_L5 tL tC y5_1 y5_2 tF_5 n y5_3 y5_4 tQ_5 = some v → ∀ (H : Heap) (locs : List Loc), va_P D vwC7 [(aT, .inr (1, [.ref aTc, .ref aTp, .int tL, .int tS, .int tQ_5, .int tF_5])), (aTc, .inl (K 2, 60, .inl tC))] H → va_D A [(aT, .inr (1, [.ref aTc, .ref aTp, .int tL, .int tS, .int tQ_5, .int tF_5])), (aTc, .inl (K 2, 60, .inl tC))] → va_S A s.heap H locs → ∀ ls : Array Slot, lv_has ls 5 [(0, .ref aT), (1, .int y5_1), (2, .int y5_2), (3, .int y5_3), (4, .int y5_4)] → W p l e RM_X1_scanDigits s m args below meth c H locs 0 0 (MQ below (QI D (TY K) (wf_X1_scanDigits K aT aTc aTp tL tS tC) v A) args s MC_X1_scanDigits MS_X1_scanDigits A) (F0 m 5 ls []) := by
    intro y5_1 y5_2 tF_5 n
    induction n with
    | zero =>
      intro y5_3 y5_4 tQ_5 hF
      exact nomatch hF
    | succ n ih =>
      intro y5_3 y5_4 tQ_5 hF H locs hP hD hS ls hl
      rw [f_X1_scanDigits_L5.eq_2] at hF
      refine lv_iload hx hb dX1_scanDigits_5 (lv_at hl 4 rfl) ?_
      refine lv_iload_n hx hb dX1_scanDigits_7 rfl (lv_at hl 2 rfl) ?_
      refine lv_icmp_ge (tgt := 50) hx hb dX1_scanDigits_8 (by decide) (fun c1 => ?_) (fun c1 => ?_)
      · have hF := oT c1 hF
        refine lv_iload hx hb dX1_scanDigits_50 (lv_at hl 4 rfl) ?_
        refine lv_iload_n hx hb dX1_scanDigits_52 rfl (lv_at hl 1 rfl) ?_
        refine lv_icmp_ge (tgt := 60) hx hb dX1_scanDigits_53 (by decide) (fun c2 => ?_) (fun c2 => ?_)
        · have hF := oT c2 hF
          refine lv_iload_n hx hb dX1_scanDigits_60 rfl (lv_at hl 3 rfl) ?_
          exact fin_i (u := (y5_3, (tQ_5, tF_5))) hF hx hb hr hlocks hK hP hD hS (Nat.le_of_ble_eq_true rfl) (Nat.le_of_ble_eq_true rfl) dX1_scanDigits_61
        · have hF := oF c2 hF
          refine lv_aload_n hx hb dX1_scanDigits_56 rfl (lv_at hl 0 rfl) ?_
          obtain ⟨v3, hv3, hF⟩ := oB hF
          refine call_v (wr := [(aTc, .inl (K 2, 60, .inl tC))]) (wn := [(aT, .inr (1, [.ref aTc, .ref aTp, .int tL, .int tS, .int tQ_5, .int v3])), (aTc, .inl (K 2, 60, .inl tC))]) (va_runV (As := []) (rest := []) ⟨hx, hb, hml, hown, hts⟩ (c_X1_markFault l D K aT aTc aTp tL tS tQ_5 tF_5 v3 hv3 H.size) (cwV 0 hts gX1_scanDigits_X1_markFault rfl rfl rfl (by decide +kernel) ⟨(Nat.le_of_ble_eq_true rfl), (Nat.le_of_ble_eq_true rfl)⟩) (prV hE hK hP hD hS hA [0] rfl rfl 1 0 rfl rfl rfl) rfl rfl hl.1 rfl (lv_room (Nat.le_of_ble_eq_true rfl)) dX1_scanDigits_57 ⟨(Nat.le_of_ble_eq_true rfl), (Nat.le_of_ble_eq_true rfl)⟩) hP hD hS hA [0] [1] [1, 0] rfl rfl rfl (by decide) rfl rfl (fun H locs hP hD hS => ?_)
          refine lv_iload_n hx hb dX1_scanDigits_60 rfl (lv_at hl 3 rfl) ?_
          exact fin_i (u := (y5_3, (tQ_5, v3))) hF hx hb hr hlocks hK hP hD hS (Nat.le_of_ble_eq_true rfl) (Nat.le_of_ble_eq_true rfl) dX1_scanDigits_61
      · have hF := oF c1 hF
        refine lv_aload_n hx hb dX1_scanDigits_11 rfl (lv_at hl 0 rfl) ?_
        obtain ⟨v4, hv4, hF⟩ := oB hF
        refine call_i (wr := []) (wn := [(aT, .inr (1, [.ref aTc, .ref aTp, .int tL, .int tS, .int tQ_5, .int tF_5])), (aTc, .inl (K 2, 60, .inl tC))]) (va_runV (As := []) (rest := []) ⟨hx, hb, hml, hown, hts⟩ (c_X1_here l D K aT aTc aTp tL tS tQ_5 tF_5 tC v4 hv4 H.size) (cwV 0 hts gX1_scanDigits_X1_here rfl rfl rfl (by decide +kernel) ⟨(Nat.le_of_ble_eq_true rfl), (Nat.le_of_ble_eq_true rfl)⟩) (prV hE hK hP hD hS hA [0, 1] rfl rfl 1 0 rfl rfl rfl) rfl rfl hl.1 rfl (lv_room (Nat.le_of_ble_eq_true rfl)) dX1_scanDigits_12 ⟨(Nat.le_of_ble_eq_true rfl), (Nat.le_of_ble_eq_true rfl)⟩) hP hD hS hA [0, 1] [] [0, 1] rfl rfl rfl (by decide) rfl rfl (fun H locs hP hD hS => ?_)
        obtain ⟨v5, hv5, hF⟩ := oB hF
        refine call_i (wr := [(aT, .inr (1, [.ref aTc, .ref aTp, .int tL, .int tS, .int tQ_5, .int tF_5])), (aTc, .inl (K 2, 60, .inl tC))]) (wn := [(aT, .inr (1, [.ref aTc, .ref aTp, .int tL, .int tS, .int tQ_5, .int tF_5])), (aTc, .inl (K 2, 60, .inl tC))]) (va_runS (As := [.int v4.1]) (rest := []) ⟨hx, hb, hml, hown, hts⟩ (c_X1_isDigit l D K v4.1 v5 hv5 H.size) (va_cwS 1 hts gX1_scanDigits_X1_isDigit rfl rfl rfl (by decide +kernel) ⟨(Nat.le_of_ble_eq_true rfl), (Nat.le_of_ble_eq_true rfl)⟩) (prS hE hK hP hD hS hA [] rfl rfl) rfl rfl hl.1 rfl (lv_room (Nat.le_of_ble_eq_true rfl)) dX1_scanDigits_15 ⟨(Nat.le_of_ble_eq_true rfl), (Nat.le_of_ble_eq_true rfl)⟩) hP hD hS hA [] [0, 1] [0, 1] rfl rfl rfl (by decide) rfl rfl (fun H locs hP hD hS => ?_)
        refine lv_if_eq (tgt := 50) hx hb dX1_scanDigits_18 (by decide) (fun c6 => ?_) (fun c6 => ?_)
        · have hF := oT c6 hF
          refine lv_iload hx hb dX1_scanDigits_50 (lv_at hl 4 rfl) ?_
          refine lv_iload_n hx hb dX1_scanDigits_52 rfl (lv_at hl 1 rfl) ?_
          refine lv_icmp_ge (tgt := 60) hx hb dX1_scanDigits_53 (by decide) (fun c7 => ?_) (fun c7 => ?_)
          · have hF := oT c7 hF
            refine lv_iload_n hx hb dX1_scanDigits_60 rfl (lv_at hl 3 rfl) ?_
            exact fin_i (u := (y5_3, (tQ_5, tF_5))) hF hx hb hr hlocks hK hP hD hS (Nat.le_of_ble_eq_true rfl) (Nat.le_of_ble_eq_true rfl) dX1_scanDigits_61
          · have hF := oF c7 hF
            refine lv_aload_n hx hb dX1_scanDigits_56 rfl (lv_at hl 0 rfl) ?_
            obtain ⟨v8, hv8, hF⟩ := oB hF
            refine call_v (wr := [(aTc, .inl (K 2, 60, .inl tC))]) (wn := [(aT, .inr (1, [.ref aTc, .ref aTp, .int tL, .int tS, .int tQ_5, .int v8])), (aTc, .inl (K 2, 60, .inl tC))]) (va_runV (As := []) (rest := []) ⟨hx, hb, hml, hown, hts⟩ (c_X1_markFault l D K aT aTc aTp tL tS tQ_5 tF_5 v8 hv8 H.size) (cwV 0 hts gX1_scanDigits_X1_markFault rfl rfl rfl (by decide +kernel) ⟨(Nat.le_of_ble_eq_true rfl), (Nat.le_of_ble_eq_true rfl)⟩) (prV hE hK hP hD hS hA [0] rfl rfl 1 0 rfl rfl rfl) rfl rfl hl.1 rfl (lv_room (Nat.le_of_ble_eq_true rfl)) dX1_scanDigits_57 ⟨(Nat.le_of_ble_eq_true rfl), (Nat.le_of_ble_eq_true rfl)⟩) hP hD hS hA [0] [1] [1, 0] rfl rfl rfl (by decide) rfl rfl (fun H locs hP hD hS => ?_)
            refine lv_iload_n hx hb dX1_scanDigits_60 rfl (lv_at hl 3 rfl) ?_
            exact fin_i (u := (y5_3, (tQ_5, v8))) hF hx hb hr hlocks hK hP hD hS (Nat.le_of_ble_eq_true rfl) (Nat.le_of_ble_eq_true rfl) dX1_scanDigits_61
        · have hF := oF c6 hF
          refine lv_iload_n hx hb dX1_scanDigits_21 rfl (lv_at hl 3 rfl) ?_
          refine lv_bipush (v := (10 : Int32)) hx hb dX1_scanDigits_22 (by decide) ?_
          refine lv_imul hx hb dX1_scanDigits_24 ?_
          refine lv_aload_n hx hb dX1_scanDigits_25 rfl (lv_at hl 0 rfl) ?_
          obtain ⟨v9, hv9, hF⟩ := oB hF
          refine call_i (wr := []) (wn := [(aT, .inr (1, [.ref aTc, .ref aTp, .int tL, .int tS, .int tQ_5, .int tF_5])), (aTc, .inl (K 2, 60, .inl tC))]) (va_runV (As := []) (rest := [.int (y5_3 * (10 : Int32))]) ⟨hx, hb, hml, hown, hts⟩ (c_X1_here l D K aT aTc aTp tL tS tQ_5 tF_5 tC v9 hv9 H.size) (cwV 0 hts gX1_scanDigits_X1_here rfl rfl rfl (by decide +kernel) ⟨(Nat.le_of_ble_eq_true rfl), (Nat.le_of_ble_eq_true rfl)⟩) (prV hE hK hP hD hS hA [0, 1] rfl rfl 1 0 rfl rfl rfl) rfl rfl hl.1 rfl (lv_room (Nat.le_of_ble_eq_true rfl)) dX1_scanDigits_26 ⟨(Nat.le_of_ble_eq_true rfl), (Nat.le_of_ble_eq_true rfl)⟩) hP hD hS hA [0, 1] [] [0, 1] rfl rfl rfl (by decide) rfl rfl (fun H locs hP hD hS => ?_)
          refine lv_bipush (v := (48 : Int32)) hx hb dX1_scanDigits_29 (by decide) ?_
          refine lv_isub hx hb dX1_scanDigits_31 ?_
          refine lv_iadd hx hb dX1_scanDigits_32 ?_
          refine lv_istore_n (lv' := [(3, .int ((y5_3 * (10 : Int32)) + (v9.1 - (48 : Int32)))), (0, .ref aT), (1, .int y5_1), (2, .int y5_2), (4, .int y5_4)]) hx hb dX1_scanDigits_33 rfl hl (by decide) rfl (fun ls hl => ?_)
          refine lv_iinc (v := y5_4 + (1 : Int32)) (lv' := [(4, .int (y5_4 + (1 : Int32))), (3, .int ((y5_3 * (10 : Int32)) + (v9.1 - (48 : Int32)))), (0, .ref aT), (1, .int y5_1), (2, .int y5_2)]) hx hb dX1_scanDigits_34 hl (k := 4) rfl (by first | rfl | decide) (by decide) rfl (fun ls hl => ?_)
          refine lv_aload_n hx hb dX1_scanDigits_37 rfl (lv_at hl 2 rfl) ?_
          refine lv_dup hx hb dX1_scanDigits_38 rfl ?_
          refine va_get (D := D) (ci := 1) (v := .int tQ_5) (C := RX1) (T := TX1) (N := 6) hx hb hts (fun _ h => List.mem_cons_of_mem _ (List.mem_append_left _ (List.mem_append_right _ h))) hown hK hP 0 rfl rfl 4 (by decide) (hts (.fieldLink RX1 26 "BarometerClub$CommandText" "position" "I") (List.mem_of_getElem? (i := 1) rfl)) (fun _ h9 => h9) rfl dX1_scanDigits_39 ?_
          refine lv_iconst (v := (1 : Int32)) hx hb dX1_scanDigits_42 (by decide) ?_
          refine lv_iadd hx hb dX1_scanDigits_43 ?_
          refine va_put (D := D) (ci := 1) (v := .int (tQ_5 + (1 : Int32))) (ty := .int) (C := RX1) (T := TX1) (N := 6) hx hb hts (fun _ h => List.mem_cons_of_mem _ (List.mem_append_left _ (List.mem_append_right _ h))) tyX1 tyX1_ok nmX1 hown hK hP hD hS 0 rfl rfl 4 (by decide) (hts (.fieldLink RX1 26 "BarometerClub$CommandText" "position" "I") (List.mem_of_getElem? (i := 1) rfl)) (fun _ h9 => h9) rfl (by decide +kernel) rfl rfl (Nat.le_of_ble_eq_true rfl) dX1_scanDigits_44 (fun H locs hP hD hS => ?_)
          have hP : va_P D vwC7 [(aT, .inr (1, [.ref aTc, .ref aTp, .int tL, .int tS, .int (tQ_5 + (1 : Int32)), .int tF_5])), (aTc, .inl (K 2, 60, .inl tC))] H := hP
          have hD : va_D A [(aT, .inr (1, [.ref aTc, .ref aTp, .int tL, .int tS, .int (tQ_5 + (1 : Int32)), .int tF_5])), (aTc, .inl (K 2, 60, .inl tC))] := hD
          refine lv_goto (tgt := 5) hx hb dX1_scanDigits_47 (by decide) ?_
          exact ih ((y5_3 * (10 : Int32)) + (v9.1 - (48 : Int32))) (y5_4 + (1 : Int32)) (tQ_5 + (1 : Int32)) hF _ _ hP hD hS _ (lv_sub hl [2, 3, 4, 1, 0] rfl)
  rw [f_X1_scanDigits] at hF
  refine lv_iconst (v := (0 : Int32)) hx hb dX1_scanDigits_0 (by decide) ?_
  refine lv_istore_n (lv' := [(3, .int (0 : Int32)), (0, .ref aT), (1, .int p1), (2, .int p2)]) hx hb dX1_scanDigits_1 rfl hl (by decide) rfl (fun ls hl => ?_)
  refine lv_iconst (v := (0 : Int32)) hx hb dX1_scanDigits_2 (by decide) ?_
  refine lv_istore (lv' := [(4, .int (0 : Int32)), (3, .int (0 : Int32)), (0, .ref aT), (1, .int p1), (2, .int p2)]) hx hb dX1_scanDigits_3 hl (by decide) rfl (fun ls hl => ?_)
  exact loop_5 p1 p2 tF FU (0 : Int32) (0 : Int32) tQ hF _ _ hP hD hS _ (lv_sub hl [2, 3, 4, 1, 0] rfl)
abbrev RM_X1_scanChange : Room := { frames := 2, cells := 0, slots := 0, locals := 45 }
abbrev MC_X1_scanChange : Nat := 0
abbrev MS_X1_scanChange : Nat := 0
abbrev wf_X1_scanChange (K : Nat → ClassId) (aT : Nat) (aTc : Nat) (aTp : Nat) (tL : Int32) (tS : Int32) (tC : Nat → Int32) (v : Int32 × Int32 × Int32) : va_W := [(aT, .inr (1, [.ref aTc, .ref aTp, .int tL, .int tS, .int v.2.1, .int v.2.2])), (aTc, .inl (K 2, 60, .inl tC))]
set_option maxHeartbeats 4000000 in
set_option maxRecDepth 100000 in
theorem c_X1_scanChange (l : Launch) (D : va_G) (K : Nat → ClassId) (aT : Nat) (aTc : Nat) (aTp : Nat) (tL : Int32) (tS : Int32) (tQ : Int32) (tF : Int32) (tC : Nat → Int32)  (v : Int32 × Int32 × Int32) (hF : f_X1_scanChange tL tQ tF tC = some v) (sz : Nat) :
    (Met l yX1_scanChange wsX1_scanChange RM_X1_scanChange (PC D (TY K) [(aT, .inr (1, [.ref aTc, .ref aTp, .int tL, .int tS, .int tQ, .int tF])), (aTc, .inl (K 2, 60, .inl tC))] [.ref aT] sz) (QI D (TY K) (wf_X1_scanChange K aT aTc aTp tL tS tC) v (va_A [(aT, .inr (1, [.ref aTc, .ref aTp, .int tL, .int tS, .int tQ, .int tF])), (aTc, .inl (K 2, 60, .inl tC))] sz)) MC_X1_scanChange MS_X1_scanChange (va_A [(aT, .inr (1, [.ref aTc, .ref aTp, .int tL, .int tS, .int tQ, .int tF])), (aTc, .inl (K 2, 60, .inl tC))] sz)) := by
  refine pro (Qf := fun A => QI D (TY K) (wf_X1_scanChange K aT aTc aTp tL tS tC) v A) (cc := cX1_scanChange) (maxL := 3) (ret := (some .int)) (by decide +kernel) rfl (Nat.le_of_ble_eq_true rfl) ?_
  intro p e s m args below meth c hx hb hr hts hown hlocks hml hini hK A hA hE hP hD hS ls hl
  have hown : s.vm.findClass RX1 = some m.cls := hown
  have hl : lv_has ls 3 [(0, .ref aT)] := hl
  rw [f_X1_scanChange] at hF
  refine lv_aload_n hx hb dX1_scanChange_0 rfl (lv_at hl 0 rfl) ?_
  obtain ⟨v1, hv1, hF⟩ := oB hF
  refine call_i (wr := []) (wn := [(aT, .inr (1, [.ref aTc, .ref aTp, .int tL, .int tS, .int tQ, .int tF])), (aTc, .inl (K 2, 60, .inl tC))]) (va_runV (As := []) (rest := []) ⟨hx, hb, hml, hown, hts⟩ (c_X1_here l D K aT aTc aTp tL tS tQ tF tC v1 hv1 s.heap.size) (cwV 0 hts gX1_scanChange_X1_here rfl rfl rfl (by decide +kernel) ⟨(Nat.le_of_ble_eq_true rfl), (Nat.le_of_ble_eq_true rfl)⟩) (prV hE hK hP hD hS hA [0, 1] rfl rfl 1 0 rfl rfl rfl) rfl rfl hl.1 rfl (lv_room (Nat.le_of_ble_eq_true rfl)) dX1_scanChange_1 ⟨(Nat.le_of_ble_eq_true rfl), (Nat.le_of_ble_eq_true rfl)⟩) hP hD hS hA [0, 1] [] [0, 1] rfl rfl rfl (by decide) rfl rfl (fun H locs hP hD hS => ?_)
  refine lv_bipush (v := (45 : Int32)) hx hb dX1_scanChange_4 (by decide) ?_
  refine lv_icmp_ne (tgt := 13) hx hb dX1_scanChange_6 (by decide) (fun c2 => ?_) (fun c2 => ?_)
  · have hF := oF c2 hF
    refine lv_iconst (v := (0 : Int32)) hx hb dX1_scanChange_13 (by decide) ?_
    refine lv_istore_n (lv' := [(1, .int (0 : Int32)), (0, .ref aT)]) hx hb dX1_scanChange_14 rfl hl (by decide) rfl (fun ls hl => ?_)
    refine lv_aload_n hx hb dX1_scanChange_15 rfl (lv_at hl 1 rfl) ?_
    refine lv_iload_n hx hb dX1_scanChange_16 rfl (lv_at hl 0 rfl) ?_
    refine lv_if_eq (tgt := 25) hx hb dX1_scanChange_17 (by decide) (fun _ => ?_) (fun c9 => absurd (by decide) c9)
    refine lv_bipush (v := (43 : Int32)) hx hb dX1_scanChange_25 (by decide) ?_
    obtain ⟨v4, hv4, hF⟩ := oB hF
    refine call_v (wr := []) (wn := [(aT, .inr (1, [.ref aTc, .ref aTp, .int tL, .int tS, .int v4.1, .int v4.2])), (aTc, .inl (K 2, 60, .inl tC))]) (va_runV (As := [.int (43 : Int32)]) (rest := []) ⟨hx, hb, hml, hown, hts⟩ (c_X1_scanSign l D K aT aTc aTp tL tS tQ tF tC (43 : Int32) v4 hv4 H.size) (cwV 1 hts gX1_scanChange_X1_scanSign rfl rfl rfl (by decide +kernel) ⟨(Nat.le_of_ble_eq_true rfl), (Nat.le_of_ble_eq_true rfl)⟩) (prV hE hK hP hD hS hA [0, 1] rfl rfl 1 0 rfl rfl rfl) rfl rfl hl.1 rfl (lv_room (Nat.le_of_ble_eq_true rfl)) dX1_scanChange_27 ⟨(Nat.le_of_ble_eq_true rfl), (Nat.le_of_ble_eq_true rfl)⟩) hP hD hS hA [0, 1] [] [0, 1] rfl rfl rfl (by decide) rfl rfl (fun H locs hP hD hS => ?_)
    refine lv_aload_n hx hb dX1_scanChange_30 rfl (lv_at hl 1 rfl) ?_
    refine lv_iconst (v := (1 : Int32)) hx hb dX1_scanChange_31 (by decide) ?_
    refine lv_iconst (v := (2 : Int32)) hx hb dX1_scanChange_32 (by decide) ?_
    obtain ⟨v5, hv5, hF⟩ := oB hF
    refine call_i (wr := []) (wn := [(aT, .inr (1, [.ref aTc, .ref aTp, .int tL, .int tS, .int v5.2.1, .int v5.2.2])), (aTc, .inl (K 2, 60, .inl tC))]) (va_runV (As := [.int (1 : Int32), .int (2 : Int32)]) (rest := []) ⟨hx, hb, hml, hown, hts⟩ (c_X1_scanDigits l D K aT aTc aTp tL tS v4.1 v4.2 tC (1 : Int32) (2 : Int32) v5 hv5 H.size) (cwV 2 hts gX1_scanChange_X1_scanDigits rfl rfl rfl (by decide +kernel) ⟨(Nat.le_of_ble_eq_true rfl), (Nat.le_of_ble_eq_true rfl)⟩) (prV hE hK hP hD hS hA [0, 1] rfl rfl 1 0 rfl rfl rfl) rfl rfl hl.1 rfl (lv_room (Nat.le_of_ble_eq_true rfl)) dX1_scanChange_33 ⟨(Nat.le_of_ble_eq_true rfl), (Nat.le_of_ble_eq_true rfl)⟩) hP hD hS hA [0, 1] [] [0, 1] rfl rfl rfl (by decide) rfl rfl (fun H locs hP hD hS => ?_)
    refine lv_istore_n (lv' := [(2, .int v5.1), (1, .int (0 : Int32)), (0, .ref aT)]) hx hb dX1_scanChange_36 rfl hl (by decide) rfl (fun ls hl => ?_)
    refine lv_iload_n hx hb dX1_scanChange_37 rfl (lv_at hl 1 rfl) ?_
    refine lv_if_eq (tgt := 46) hx hb dX1_scanChange_38 (by decide) (fun _ => ?_) (fun c9 => absurd (by decide) c9)
    refine lv_iload_n hx hb dX1_scanChange_46 rfl (lv_at hl 0 rfl) ?_
    exact fin_i (u := (v5.1, (v5.2.1, v5.2.2))) hF hx hb hr hlocks hK hP hD hS (Nat.le_of_ble_eq_true rfl) (Nat.le_of_ble_eq_true rfl) dX1_scanChange_47
  · have hF := oT c2 hF
    refine lv_iconst (v := (1 : Int32)) hx hb dX1_scanChange_9 (by decide) ?_
    refine lv_goto (tgt := 14) hx hb dX1_scanChange_10 (by decide) ?_
    refine lv_istore_n (lv' := [(1, .int (1 : Int32)), (0, .ref aT)]) hx hb dX1_scanChange_14 rfl hl (by decide) rfl (fun ls hl => ?_)
    refine lv_aload_n hx hb dX1_scanChange_15 rfl (lv_at hl 1 rfl) ?_
    refine lv_iload_n hx hb dX1_scanChange_16 rfl (lv_at hl 0 rfl) ?_
    refine lv_if_eq (tgt := 25) hx hb dX1_scanChange_17 (by decide) (fun c9 => absurd c9 (by decide)) (fun _ => ?_)
    refine lv_bipush (v := (45 : Int32)) hx hb dX1_scanChange_20 (by decide) ?_
    refine lv_goto (tgt := 27) hx hb dX1_scanChange_22 (by decide) ?_
    obtain ⟨v8, hv8, hF⟩ := oB hF
    refine call_v (wr := []) (wn := [(aT, .inr (1, [.ref aTc, .ref aTp, .int tL, .int tS, .int v8.1, .int v8.2])), (aTc, .inl (K 2, 60, .inl tC))]) (va_runV (As := [.int (45 : Int32)]) (rest := []) ⟨hx, hb, hml, hown, hts⟩ (c_X1_scanSign l D K aT aTc aTp tL tS tQ tF tC (45 : Int32) v8 hv8 H.size) (cwV 1 hts gX1_scanChange_X1_scanSign rfl rfl rfl (by decide +kernel) ⟨(Nat.le_of_ble_eq_true rfl), (Nat.le_of_ble_eq_true rfl)⟩) (prV hE hK hP hD hS hA [0, 1] rfl rfl 1 0 rfl rfl rfl) rfl rfl hl.1 rfl (lv_room (Nat.le_of_ble_eq_true rfl)) dX1_scanChange_27 ⟨(Nat.le_of_ble_eq_true rfl), (Nat.le_of_ble_eq_true rfl)⟩) hP hD hS hA [0, 1] [] [0, 1] rfl rfl rfl (by decide) rfl rfl (fun H locs hP hD hS => ?_)
    refine lv_aload_n hx hb dX1_scanChange_30 rfl (lv_at hl 1 rfl) ?_
    refine lv_iconst (v := (1 : Int32)) hx hb dX1_scanChange_31 (by decide) ?_
    refine lv_iconst (v := (2 : Int32)) hx hb dX1_scanChange_32 (by decide) ?_
    obtain ⟨v9, hv9, hF⟩ := oB hF
    refine call_i (wr := []) (wn := [(aT, .inr (1, [.ref aTc, .ref aTp, .int tL, .int tS, .int v9.2.1, .int v9.2.2])), (aTc, .inl (K 2, 60, .inl tC))]) (va_runV (As := [.int (1 : Int32), .int (2 : Int32)]) (rest := []) ⟨hx, hb, hml, hown, hts⟩ (c_X1_scanDigits l D K aT aTc aTp tL tS v8.1 v8.2 tC (1 : Int32) (2 : Int32) v9 hv9 H.size) (cwV 2 hts gX1_scanChange_X1_scanDigits rfl rfl rfl (by decide +kernel) ⟨(Nat.le_of_ble_eq_true rfl), (Nat.le_of_ble_eq_true rfl)⟩) (prV hE hK hP hD hS hA [0, 1] rfl rfl 1 0 rfl rfl rfl) rfl rfl hl.1 rfl (lv_room (Nat.le_of_ble_eq_true rfl)) dX1_scanChange_33 ⟨(Nat.le_of_ble_eq_true rfl), (Nat.le_of_ble_eq_true rfl)⟩) hP hD hS hA [0, 1] [] [0, 1] rfl rfl rfl (by decide) rfl rfl (fun H locs hP hD hS => ?_)
    refine lv_istore_n (lv' := [(2, .int v9.1), (1, .int (1 : Int32)), (0, .ref aT)]) hx hb dX1_scanChange_36 rfl hl (by decide) rfl (fun ls hl => ?_)
    refine lv_iload_n hx hb dX1_scanChange_37 rfl (lv_at hl 1 rfl) ?_
    refine lv_if_eq (tgt := 46) hx hb dX1_scanChange_38 (by decide) (fun c9 => absurd c9 (by decide)) (fun _ => ?_)
    refine lv_iload_n hx hb dX1_scanChange_41 rfl (lv_at hl 0 rfl) ?_
    refine lv_ineg hx hb dX1_scanChange_42 ?_
    refine lv_goto (tgt := 47) hx hb dX1_scanChange_43 (by decide) ?_
    exact fin_i (u := (-v9.1, (v9.2.1, v9.2.2))) hF hx hb hr hlocks hK hP hD hS (Nat.le_of_ble_eq_true rfl) (Nat.le_of_ble_eq_true rfl) dX1_scanChange_47
abbrev RM_X1_scanBehindFirst : Room := { frames := 2, cells := 0, slots := 0, locals := 45 }
abbrev MC_X1_scanBehindFirst : Nat := 0
abbrev MS_X1_scanBehindFirst : Nat := 0
abbrev wf_X1_scanBehindFirst (K : Nat → ClassId) (aT : Nat) (aTc : Nat) (aTp : Nat) (tL : Int32) (tS : Int32) (tC : Nat → Int32) (v : Int32 × Int32 × (Nat → Int32)) : va_W := [(aT, .inr (1, [.ref aTc, .ref aTp, .int tL, .int tS, .int v.1, .int v.2.1])), (aTc, .inl (K 2, 60, .inl tC)), (aTp, .inl (K 3, 240, .inl v.2.2))]
set_option maxHeartbeats 4000000 in
set_option maxRecDepth 100000 in
theorem c_X1_scanBehindFirst (l : Launch) (D : va_G) (K : Nat → ClassId) (aT : Nat) (aTc : Nat) (aTp : Nat) (tL : Int32) (tS : Int32) (tQ : Int32) (tF : Int32) (tC : Nat → Int32) (tP : Nat → Int32) (p1 : Int32) (p2 : Int32) (v : Int32 × Int32 × (Nat → Int32)) (hF : f_X1_scanBehindFirst tL tQ tF tC tP p1 p2 = some v) (sz : Nat) :
    (Met l yX1_scanBehindFirst wsX1_scanBehindFirst RM_X1_scanBehindFirst (PC D (TY K) [(aT, .inr (1, [.ref aTc, .ref aTp, .int tL, .int tS, .int tQ, .int tF])), (aTc, .inl (K 2, 60, .inl tC)), (aTp, .inl (K 3, 240, .inl tP))] [.ref aT, .int p1, .int p2] sz) (QV D (TY K) (wf_X1_scanBehindFirst K aT aTc aTp tL tS tC) v (va_A [(aT, .inr (1, [.ref aTc, .ref aTp, .int tL, .int tS, .int tQ, .int tF])), (aTc, .inl (K 2, 60, .inl tC)), (aTp, .inl (K 3, 240, .inl tP))] sz)) MC_X1_scanBehindFirst MS_X1_scanBehindFirst (va_A [(aT, .inr (1, [.ref aTc, .ref aTp, .int tL, .int tS, .int tQ, .int tF])), (aTc, .inl (K 2, 60, .inl tC)), (aTp, .inl (K 3, 240, .inl tP))] sz)) := by
  refine pro (Qf := fun A => QV D (TY K) (wf_X1_scanBehindFirst K aT aTc aTp tL tS tC) v A) (cc := cX1_scanBehindFirst) (maxL := 3) (ret := none) (by decide +kernel) rfl (Nat.le_of_ble_eq_true rfl) ?_
  intro p e s m args below meth c hx hb hr hts hown hlocks hml hini hK A hA hE hP hD hS ls hl
  have hown : s.vm.findClass RX1 = some m.cls := hown
  have hl : lv_has ls 3 [(0, .ref aT), (1, .int p1), (2, .int p2)] := hl
  rw [f_X1_scanBehindFirst] at hF
  refine lv_iload_n hx hb dX1_scanBehindFirst_0 rfl (lv_at hl 2 rfl) ?_
  by_cases c1 : p2 = (109 : Int32)
  · have hF := oT c1 hF
    refine lv_lookup (off := 35) (tgt := 36) hx hb dX1_scanBehindFirst_1 (by decide) (by rw [c1]; rfl) (by decide) ?_
    refine lv_aload_n hx hb dX1_scanBehindFirst_36 rfl (lv_at hl 0 rfl) ?_
    refine lv_bipush (v := (62 : Int32)) hx hb dX1_scanBehindFirst_37 (by decide) ?_
    obtain ⟨v2, hv2, hF⟩ := oB hF
    refine call_v (wr := [(aTp, .inl (K 3, 240, .inl tP))]) (wn := [(aT, .inr (1, [.ref aTc, .ref aTp, .int tL, .int tS, .int v2.1, .int v2.2])), (aTc, .inl (K 2, 60, .inl tC)), (aTp, .inl (K 3, 240, .inl tP))]) (va_runV (As := [.int (62 : Int32)]) (rest := []) ⟨hx, hb, hml, hown, hts⟩ (c_X1_scanSign l D K aT aTc aTp tL tS tQ tF tC (62 : Int32) v2 hv2 s.heap.size) (cwV 1 hts gX1_scanBehindFirst_X1_scanSign rfl rfl rfl (by decide +kernel) ⟨(Nat.le_of_ble_eq_true rfl), (Nat.le_of_ble_eq_true rfl)⟩) (prV hE hK hP hD hS hA [0, 1] rfl rfl 1 0 rfl rfl rfl) rfl rfl hl.1 rfl (lv_room (Nat.le_of_ble_eq_true rfl)) dX1_scanBehindFirst_39 ⟨(Nat.le_of_ble_eq_true rfl), (Nat.le_of_ble_eq_true rfl)⟩) hP hD hS hA [0, 1] [2] [1, 2, 0] rfl rfl rfl (by decide) rfl rfl (fun H locs hP hD hS => ?_)
    refine lv_aload_n hx hb dX1_scanBehindFirst_42 rfl (lv_at hl 0 rfl) ?_
    refine lv_iload_n hx hb dX1_scanBehindFirst_43 rfl (lv_at hl 1 rfl) ?_
    refine lv_iconst (v := (2 : Int32)) hx hb dX1_scanBehindFirst_44 (by decide) ?_
    refine lv_aload_n hx hb dX1_scanBehindFirst_45 rfl (lv_at hl 0 rfl) ?_
    refine lv_iconst (v := (1 : Int32)) hx hb dX1_scanBehindFirst_46 (by decide) ?_
    refine lv_iconst (v := (1 : Int32)) hx hb dX1_scanBehindFirst_47 (by decide) ?_
    obtain ⟨v3, hv3, hF⟩ := oB hF
    refine call_i (wr := [(aTp, .inl (K 3, 240, .inl tP))]) (wn := [(aT, .inr (1, [.ref aTc, .ref aTp, .int tL, .int tS, .int v3.2.1, .int v3.2.2])), (aTc, .inl (K 2, 60, .inl tC)), (aTp, .inl (K 3, 240, .inl tP))]) (va_runV (As := [.int (1 : Int32), .int (1 : Int32)]) (rest := [.int (2 : Int32), .int p1, .ref aT]) ⟨hx, hb, hml, hown, hts⟩ (c_X1_scanDigits l D K aT aTc aTp tL tS v2.1 v2.2 tC (1 : Int32) (1 : Int32) v3 hv3 H.size) (cwV 2 hts gX1_scanBehindFirst_X1_scanDigits rfl rfl rfl (by decide +kernel) ⟨(Nat.le_of_ble_eq_true rfl), (Nat.le_of_ble_eq_true rfl)⟩) (prV hE hK hP hD hS hA [0, 1] rfl rfl 1 0 rfl rfl rfl) rfl rfl hl.1 rfl (lv_room (Nat.le_of_ble_eq_true rfl)) dX1_scanBehindFirst_48 ⟨(Nat.le_of_ble_eq_true rfl), (Nat.le_of_ble_eq_true rfl)⟩) hP hD hS hA [0, 1] [2] [1, 2, 0] rfl rfl rfl (by decide) rfl rfl (fun H locs hP hD hS => ?_)
    obtain ⟨v4, hv4, hF⟩ := oB hF
    refine call_v (wr := [(aTc, .inl (K 2, 60, .inl tC))]) (wn := [(aT, .inr (1, [.ref aTc, .ref aTp, .int tL, .int tS, .int v3.2.1, .int v3.2.2])), (aTc, .inl (K 2, 60, .inl tC)), (aTp, .inl (K 3, 240, .inl v4))]) (va_runV (As := [.int p1, .int (2 : Int32), .int v3.1]) (rest := []) ⟨hx, hb, hml, hown, hts⟩ (c_X1_setNumber l D K aT aTc aTp tL tS v3.2.1 v3.2.2 tP p1 (2 : Int32) v3.1 v4 hv4 H.size) (cwV 3 hts gX1_scanBehindFirst_X1_setNumber rfl rfl rfl (by decide +kernel) ⟨(Nat.le_of_ble_eq_true rfl), (Nat.le_of_ble_eq_true rfl)⟩) (prV hE hK hP hD hS hA [0, 2] rfl rfl 1 0 rfl rfl rfl) rfl rfl hl.1 rfl (lv_room (Nat.le_of_ble_eq_true rfl)) dX1_scanBehindFirst_51 ⟨(Nat.le_of_ble_eq_true rfl), (Nat.le_of_ble_eq_true rfl)⟩) hP hD hS hA [0, 2] [1] [1, 0, 2] rfl rfl rfl (by decide) rfl rfl (fun H locs hP hD hS => ?_)
    refine lv_goto (tgt := 117) hx hb dX1_scanBehindFirst_54 (by decide) ?_
    exact fin_v (u := (v3.2.1, v3.2.2, v4)) hF hx hb hr hlocks hK hP hD hS (Nat.le_of_ble_eq_true rfl) (Nat.le_of_ble_eq_true rfl) dX1_scanBehindFirst_117
  have hF := oF c1 hF
  by_cases c5 : p2 = (115 : Int32)
  · have hF := oT c5 hF
    refine lv_lookup (off := 56) (tgt := 57) hx hb dX1_scanBehindFirst_1 (by decide) (by rw [c5]; rfl) (by decide) ?_
    refine lv_aload_n hx hb dX1_scanBehindFirst_57 rfl (lv_at hl 0 rfl) ?_
    refine lv_bipush (v := (38 : Int32)) hx hb dX1_scanBehindFirst_58 (by decide) ?_
    obtain ⟨v6, hv6, hF⟩ := oB hF
    refine call_v (wr := [(aTp, .inl (K 3, 240, .inl tP))]) (wn := [(aT, .inr (1, [.ref aTc, .ref aTp, .int tL, .int tS, .int v6.1, .int v6.2])), (aTc, .inl (K 2, 60, .inl tC)), (aTp, .inl (K 3, 240, .inl tP))]) (va_runV (As := [.int (38 : Int32)]) (rest := []) ⟨hx, hb, hml, hown, hts⟩ (c_X1_scanSign l D K aT aTc aTp tL tS tQ tF tC (38 : Int32) v6 hv6 s.heap.size) (cwV 1 hts gX1_scanBehindFirst_X1_scanSign rfl rfl rfl (by decide +kernel) ⟨(Nat.le_of_ble_eq_true rfl), (Nat.le_of_ble_eq_true rfl)⟩) (prV hE hK hP hD hS hA [0, 1] rfl rfl 1 0 rfl rfl rfl) rfl rfl hl.1 rfl (lv_room (Nat.le_of_ble_eq_true rfl)) dX1_scanBehindFirst_60 ⟨(Nat.le_of_ble_eq_true rfl), (Nat.le_of_ble_eq_true rfl)⟩) hP hD hS hA [0, 1] [2] [1, 2, 0] rfl rfl rfl (by decide) rfl rfl (fun H locs hP hD hS => ?_)
    refine lv_aload_n hx hb dX1_scanBehindFirst_63 rfl (lv_at hl 0 rfl) ?_
    refine lv_iload_n hx hb dX1_scanBehindFirst_64 rfl (lv_at hl 1 rfl) ?_
    refine lv_iconst (v := (2 : Int32)) hx hb dX1_scanBehindFirst_65 (by decide) ?_
    refine lv_aload_n hx hb dX1_scanBehindFirst_66 rfl (lv_at hl 0 rfl) ?_
    refine lv_iconst (v := (1 : Int32)) hx hb dX1_scanBehindFirst_67 (by decide) ?_
    refine lv_iconst (v := (1 : Int32)) hx hb dX1_scanBehindFirst_68 (by decide) ?_
    obtain ⟨v7, hv7, hF⟩ := oB hF
    refine call_i (wr := [(aTp, .inl (K 3, 240, .inl tP))]) (wn := [(aT, .inr (1, [.ref aTc, .ref aTp, .int tL, .int tS, .int v7.2.1, .int v7.2.2])), (aTc, .inl (K 2, 60, .inl tC)), (aTp, .inl (K 3, 240, .inl tP))]) (va_runV (As := [.int (1 : Int32), .int (1 : Int32)]) (rest := [.int (2 : Int32), .int p1, .ref aT]) ⟨hx, hb, hml, hown, hts⟩ (c_X1_scanDigits l D K aT aTc aTp tL tS v6.1 v6.2 tC (1 : Int32) (1 : Int32) v7 hv7 H.size) (cwV 2 hts gX1_scanBehindFirst_X1_scanDigits rfl rfl rfl (by decide +kernel) ⟨(Nat.le_of_ble_eq_true rfl), (Nat.le_of_ble_eq_true rfl)⟩) (prV hE hK hP hD hS hA [0, 1] rfl rfl 1 0 rfl rfl rfl) rfl rfl hl.1 rfl (lv_room (Nat.le_of_ble_eq_true rfl)) dX1_scanBehindFirst_69 ⟨(Nat.le_of_ble_eq_true rfl), (Nat.le_of_ble_eq_true rfl)⟩) hP hD hS hA [0, 1] [2] [1, 2, 0] rfl rfl rfl (by decide) rfl rfl (fun H locs hP hD hS => ?_)
    obtain ⟨v8, hv8, hF⟩ := oB hF
    refine call_v (wr := [(aTc, .inl (K 2, 60, .inl tC))]) (wn := [(aT, .inr (1, [.ref aTc, .ref aTp, .int tL, .int tS, .int v7.2.1, .int v7.2.2])), (aTc, .inl (K 2, 60, .inl tC)), (aTp, .inl (K 3, 240, .inl v8))]) (va_runV (As := [.int p1, .int (2 : Int32), .int v7.1]) (rest := []) ⟨hx, hb, hml, hown, hts⟩ (c_X1_setNumber l D K aT aTc aTp tL tS v7.2.1 v7.2.2 tP p1 (2 : Int32) v7.1 v8 hv8 H.size) (cwV 3 hts gX1_scanBehindFirst_X1_setNumber rfl rfl rfl (by decide +kernel) ⟨(Nat.le_of_ble_eq_true rfl), (Nat.le_of_ble_eq_true rfl)⟩) (prV hE hK hP hD hS hA [0, 2] rfl rfl 1 0 rfl rfl rfl) rfl rfl hl.1 rfl (lv_room (Nat.le_of_ble_eq_true rfl)) dX1_scanBehindFirst_72 ⟨(Nat.le_of_ble_eq_true rfl), (Nat.le_of_ble_eq_true rfl)⟩) hP hD hS hA [0, 2] [1] [1, 0, 2] rfl rfl rfl (by decide) rfl rfl (fun H locs hP hD hS => ?_)
    refine lv_goto (tgt := 117) hx hb dX1_scanBehindFirst_75 (by decide) ?_
    exact fin_v (u := (v7.2.1, v7.2.2, v8)) hF hx hb hr hlocks hK hP hD hS (Nat.le_of_ble_eq_true rfl) (Nat.le_of_ble_eq_true rfl) dX1_scanBehindFirst_117
  have hF := oF c5 hF
  by_cases c9 : p2 = (119 : Int32)
  · have hF := oT c9 hF
    refine lv_lookup (off := 77) (tgt := 78) hx hb dX1_scanBehindFirst_1 (by decide) (by rw [c9]; rfl) (by decide) ?_
    refine lv_aload_n hx hb dX1_scanBehindFirst_78 rfl (lv_at hl 0 rfl) ?_
    refine lv_bipush (v := (61 : Int32)) hx hb dX1_scanBehindFirst_79 (by decide) ?_
    obtain ⟨v10, hv10, hF⟩ := oB hF
    refine call_v (wr := [(aTp, .inl (K 3, 240, .inl tP))]) (wn := [(aT, .inr (1, [.ref aTc, .ref aTp, .int tL, .int tS, .int v10.1, .int v10.2])), (aTc, .inl (K 2, 60, .inl tC)), (aTp, .inl (K 3, 240, .inl tP))]) (va_runV (As := [.int (61 : Int32)]) (rest := []) ⟨hx, hb, hml, hown, hts⟩ (c_X1_scanSign l D K aT aTc aTp tL tS tQ tF tC (61 : Int32) v10 hv10 s.heap.size) (cwV 1 hts gX1_scanBehindFirst_X1_scanSign rfl rfl rfl (by decide +kernel) ⟨(Nat.le_of_ble_eq_true rfl), (Nat.le_of_ble_eq_true rfl)⟩) (prV hE hK hP hD hS hA [0, 1] rfl rfl 1 0 rfl rfl rfl) rfl rfl hl.1 rfl (lv_room (Nat.le_of_ble_eq_true rfl)) dX1_scanBehindFirst_81 ⟨(Nat.le_of_ble_eq_true rfl), (Nat.le_of_ble_eq_true rfl)⟩) hP hD hS hA [0, 1] [2] [1, 2, 0] rfl rfl rfl (by decide) rfl rfl (fun H locs hP hD hS => ?_)
    refine lv_aload_n hx hb dX1_scanBehindFirst_84 rfl (lv_at hl 0 rfl) ?_
    refine lv_iload_n hx hb dX1_scanBehindFirst_85 rfl (lv_at hl 1 rfl) ?_
    refine lv_iconst (v := (2 : Int32)) hx hb dX1_scanBehindFirst_86 (by decide) ?_
    refine lv_aload_n hx hb dX1_scanBehindFirst_87 rfl (lv_at hl 0 rfl) ?_
    refine lv_iconst (v := (3 : Int32)) hx hb dX1_scanBehindFirst_88 (by decide) ?_
    refine lv_iconst (v := (4 : Int32)) hx hb dX1_scanBehindFirst_89 (by decide) ?_
    obtain ⟨v11, hv11, hF⟩ := oB hF
    refine call_i (wr := [(aTp, .inl (K 3, 240, .inl tP))]) (wn := [(aT, .inr (1, [.ref aTc, .ref aTp, .int tL, .int tS, .int v11.2.1, .int v11.2.2])), (aTc, .inl (K 2, 60, .inl tC)), (aTp, .inl (K 3, 240, .inl tP))]) (va_runV (As := [.int (3 : Int32), .int (4 : Int32)]) (rest := [.int (2 : Int32), .int p1, .ref aT]) ⟨hx, hb, hml, hown, hts⟩ (c_X1_scanDigits l D K aT aTc aTp tL tS v10.1 v10.2 tC (3 : Int32) (4 : Int32) v11 hv11 H.size) (cwV 2 hts gX1_scanBehindFirst_X1_scanDigits rfl rfl rfl (by decide +kernel) ⟨(Nat.le_of_ble_eq_true rfl), (Nat.le_of_ble_eq_true rfl)⟩) (prV hE hK hP hD hS hA [0, 1] rfl rfl 1 0 rfl rfl rfl) rfl rfl hl.1 rfl (lv_room (Nat.le_of_ble_eq_true rfl)) dX1_scanBehindFirst_90 ⟨(Nat.le_of_ble_eq_true rfl), (Nat.le_of_ble_eq_true rfl)⟩) hP hD hS hA [0, 1] [2] [1, 2, 0] rfl rfl rfl (by decide) rfl rfl (fun H locs hP hD hS => ?_)
    obtain ⟨v12, hv12, hF⟩ := oB hF
    refine call_v (wr := [(aTc, .inl (K 2, 60, .inl tC))]) (wn := [(aT, .inr (1, [.ref aTc, .ref aTp, .int tL, .int tS, .int v11.2.1, .int v11.2.2])), (aTc, .inl (K 2, 60, .inl tC)), (aTp, .inl (K 3, 240, .inl v12))]) (va_runV (As := [.int p1, .int (2 : Int32), .int v11.1]) (rest := []) ⟨hx, hb, hml, hown, hts⟩ (c_X1_setNumber l D K aT aTc aTp tL tS v11.2.1 v11.2.2 tP p1 (2 : Int32) v11.1 v12 hv12 H.size) (cwV 3 hts gX1_scanBehindFirst_X1_setNumber rfl rfl rfl (by decide +kernel) ⟨(Nat.le_of_ble_eq_true rfl), (Nat.le_of_ble_eq_true rfl)⟩) (prV hE hK hP hD hS hA [0, 2] rfl rfl 1 0 rfl rfl rfl) rfl rfl hl.1 rfl (lv_room (Nat.le_of_ble_eq_true rfl)) dX1_scanBehindFirst_93 ⟨(Nat.le_of_ble_eq_true rfl), (Nat.le_of_ble_eq_true rfl)⟩) hP hD hS hA [0, 2] [1] [1, 0, 2] rfl rfl rfl (by decide) rfl rfl (fun H locs hP hD hS => ?_)
    refine lv_aload_n hx hb dX1_scanBehindFirst_96 rfl (lv_at hl 0 rfl) ?_
    refine lv_bipush (v := (47 : Int32)) hx hb dX1_scanBehindFirst_97 (by decide) ?_
    obtain ⟨v13, hv13, hF⟩ := oB hF
    refine call_v (wr := [(aTp, .inl (K 3, 240, .inl v12))]) (wn := [(aT, .inr (1, [.ref aTc, .ref aTp, .int tL, .int tS, .int v13.1, .int v13.2])), (aTc, .inl (K 2, 60, .inl tC)), (aTp, .inl (K 3, 240, .inl v12))]) (va_runV (As := [.int (47 : Int32)]) (rest := []) ⟨hx, hb, hml, hown, hts⟩ (c_X1_scanSign l D K aT aTc aTp tL tS v11.2.1 v11.2.2 tC (47 : Int32) v13 hv13 H.size) (cwV 1 hts gX1_scanBehindFirst_X1_scanSign rfl rfl rfl (by decide +kernel) ⟨(Nat.le_of_ble_eq_true rfl), (Nat.le_of_ble_eq_true rfl)⟩) (prV hE hK hP hD hS hA [0, 1] rfl rfl 1 0 rfl rfl rfl) rfl rfl hl.1 rfl (lv_room (Nat.le_of_ble_eq_true rfl)) dX1_scanBehindFirst_99 ⟨(Nat.le_of_ble_eq_true rfl), (Nat.le_of_ble_eq_true rfl)⟩) hP hD hS hA [0, 1] [2] [1, 2, 0] rfl rfl rfl (by decide) rfl rfl (fun H locs hP hD hS => ?_)
    refine lv_aload_n hx hb dX1_scanBehindFirst_102 rfl (lv_at hl 0 rfl) ?_
    refine lv_iload_n hx hb dX1_scanBehindFirst_103 rfl (lv_at hl 1 rfl) ?_
    refine lv_iconst (v := (3 : Int32)) hx hb dX1_scanBehindFirst_104 (by decide) ?_
    refine lv_aload_n hx hb dX1_scanBehindFirst_105 rfl (lv_at hl 0 rfl) ?_
    refine lv_iconst (v := (1 : Int32)) hx hb dX1_scanBehindFirst_106 (by decide) ?_
    refine lv_iconst (v := (1 : Int32)) hx hb dX1_scanBehindFirst_107 (by decide) ?_
    obtain ⟨v14, hv14, hF⟩ := oB hF
    refine call_i (wr := [(aTp, .inl (K 3, 240, .inl v12))]) (wn := [(aT, .inr (1, [.ref aTc, .ref aTp, .int tL, .int tS, .int v14.2.1, .int v14.2.2])), (aTc, .inl (K 2, 60, .inl tC)), (aTp, .inl (K 3, 240, .inl v12))]) (va_runV (As := [.int (1 : Int32), .int (1 : Int32)]) (rest := [.int (3 : Int32), .int p1, .ref aT]) ⟨hx, hb, hml, hown, hts⟩ (c_X1_scanDigits l D K aT aTc aTp tL tS v13.1 v13.2 tC (1 : Int32) (1 : Int32) v14 hv14 H.size) (cwV 2 hts gX1_scanBehindFirst_X1_scanDigits rfl rfl rfl (by decide +kernel) ⟨(Nat.le_of_ble_eq_true rfl), (Nat.le_of_ble_eq_true rfl)⟩) (prV hE hK hP hD hS hA [0, 1] rfl rfl 1 0 rfl rfl rfl) rfl rfl hl.1 rfl (lv_room (Nat.le_of_ble_eq_true rfl)) dX1_scanBehindFirst_108 ⟨(Nat.le_of_ble_eq_true rfl), (Nat.le_of_ble_eq_true rfl)⟩) hP hD hS hA [0, 1] [2] [1, 2, 0] rfl rfl rfl (by decide) rfl rfl (fun H locs hP hD hS => ?_)
    obtain ⟨v15, hv15, hF⟩ := oB hF
    refine call_v (wr := [(aTc, .inl (K 2, 60, .inl tC))]) (wn := [(aT, .inr (1, [.ref aTc, .ref aTp, .int tL, .int tS, .int v14.2.1, .int v14.2.2])), (aTc, .inl (K 2, 60, .inl tC)), (aTp, .inl (K 3, 240, .inl v15))]) (va_runV (As := [.int p1, .int (3 : Int32), .int v14.1]) (rest := []) ⟨hx, hb, hml, hown, hts⟩ (c_X1_setNumber l D K aT aTc aTp tL tS v14.2.1 v14.2.2 v12 p1 (3 : Int32) v14.1 v15 hv15 H.size) (cwV 3 hts gX1_scanBehindFirst_X1_setNumber rfl rfl rfl (by decide +kernel) ⟨(Nat.le_of_ble_eq_true rfl), (Nat.le_of_ble_eq_true rfl)⟩) (prV hE hK hP hD hS hA [0, 2] rfl rfl 1 0 rfl rfl rfl) rfl rfl hl.1 rfl (lv_room (Nat.le_of_ble_eq_true rfl)) dX1_scanBehindFirst_111 ⟨(Nat.le_of_ble_eq_true rfl), (Nat.le_of_ble_eq_true rfl)⟩) hP hD hS hA [0, 2] [1] [1, 0, 2] rfl rfl rfl (by decide) rfl rfl (fun H locs hP hD hS => ?_)
    refine lv_goto (tgt := 117) hx hb dX1_scanBehindFirst_114 (by decide) ?_
    exact fin_v (u := (v14.2.1, v14.2.2, v15)) hF hx hb hr hlocks hK hP hD hS (Nat.le_of_ble_eq_true rfl) (Nat.le_of_ble_eq_true rfl) dX1_scanBehindFirst_117
  have hF := oF c9 hF
  refine lv_lookup (off := 116) (tgt := 117) hx hb dX1_scanBehindFirst_1 (by decide) ((lv_osw c1 rfl).trans ((lv_osw c5 rfl).trans ((lv_osw c9 rfl).trans rfl))) (by decide) ?_
  exact fin_v (u := (tQ, tF, tP)) hF hx hb hr hlocks hK hP hD hS (Nat.le_of_ble_eq_true rfl) (Nat.le_of_ble_eq_true rfl) dX1_scanBehindFirst_117
abbrev RM_X1_scanCommand : Room := { frames := 3, cells := 0, slots := 0, locals := 67 }
abbrev MC_X1_scanCommand : Nat := 0
abbrev MS_X1_scanCommand : Nat := 0
abbrev wf_X1_scanCommand (K : Nat → ClassId) (aT : Nat) (aTc : Nat) (aTp : Nat) (tL : Int32) (tS : Int32) (tC : Nat → Int32) (v : Int32 × Int32 × (Nat → Int32)) : va_W := [(aT, .inr (1, [.ref aTc, .ref aTp, .int tL, .int tS, .int v.1, .int v.2.1])), (aTc, .inl (K 2, 60, .inl tC)), (aTp, .inl (K 3, 240, .inl v.2.2))]
set_option maxHeartbeats 4000000 in
set_option maxRecDepth 100000 in
theorem c_X1_scanCommand (l : Launch) (D : va_G) (K : Nat → ClassId) (aT : Nat) (aTc : Nat) (aTp : Nat) (tL : Int32) (tS : Int32) (tQ : Int32) (tF : Int32) (tC : Nat → Int32) (tP : Nat → Int32) (p1 : Int32) (v : Int32 × Int32 × (Nat → Int32)) (hF : f_X1_scanCommand tL tQ tF tC tP p1 = some v) (sz : Nat) :
    (Met l yX1_scanCommand wsX1_scanCommand RM_X1_scanCommand (PC D (TY K) [(aT, .inr (1, [.ref aTc, .ref aTp, .int tL, .int tS, .int tQ, .int tF])), (aTc, .inl (K 2, 60, .inl tC)), (aTp, .inl (K 3, 240, .inl tP))] [.ref aT, .int p1] sz) (QV D (TY K) (wf_X1_scanCommand K aT aTc aTp tL tS tC) v (va_A [(aT, .inr (1, [.ref aTc, .ref aTp, .int tL, .int tS, .int tQ, .int tF])), (aTc, .inl (K 2, 60, .inl tC)), (aTp, .inl (K 3, 240, .inl tP))] sz)) MC_X1_scanCommand MS_X1_scanCommand (va_A [(aT, .inr (1, [.ref aTc, .ref aTp, .int tL, .int tS, .int tQ, .int tF])), (aTc, .inl (K 2, 60, .inl tC)), (aTp, .inl (K 3, 240, .inl tP))] sz)) := by
  refine pro (Qf := fun A => QV D (TY K) (wf_X1_scanCommand K aT aTc aTp tL tS tC) v A) (cc := cX1_scanCommand) (maxL := 3) (ret := none) (by decide +kernel) rfl (Nat.le_of_ble_eq_true rfl) ?_
  intro p e s m args below meth c hx hb hr hts hown hlocks hml hini hK A hA hE hP hD hS ls hl
  have hown : s.vm.findClass RX1 = some m.cls := hown
  have hl : lv_has ls 3 [(0, .ref aT), (1, .int p1)] := hl
  rw [f_X1_scanCommand] at hF
  refine lv_aload_n hx hb dX1_scanCommand_0 rfl (lv_at hl 0 rfl) ?_
  obtain ⟨v1, hv1, hF⟩ := oB hF
  refine call_i (wr := [(aTp, .inl (K 3, 240, .inl tP))]) (wn := [(aT, .inr (1, [.ref aTc, .ref aTp, .int tL, .int tS, .int tQ, .int tF])), (aTc, .inl (K 2, 60, .inl tC)), (aTp, .inl (K 3, 240, .inl tP))]) (va_runV (As := []) (rest := []) ⟨hx, hb, hml, hown, hts⟩ (c_X1_here l D K aT aTc aTp tL tS tQ tF tC v1 hv1 s.heap.size) (cwV 0 hts gX1_scanCommand_X1_here rfl rfl rfl (by decide +kernel) ⟨(Nat.le_of_ble_eq_true rfl), (Nat.le_of_ble_eq_true rfl)⟩) (prV hE hK hP hD hS hA [0, 1] rfl rfl 1 0 rfl rfl rfl) rfl rfl hl.1 rfl (lv_room (Nat.le_of_ble_eq_true rfl)) dX1_scanCommand_1 ⟨(Nat.le_of_ble_eq_true rfl), (Nat.le_of_ble_eq_true rfl)⟩) hP hD hS hA [0, 1] [2] [1, 2, 0] rfl rfl rfl (by decide) rfl rfl (fun H locs hP hD hS => ?_)
  refine lv_istore_n (lv' := [(2, .int v1.1), (0, .ref aT), (1, .int p1)]) hx hb dX1_scanCommand_4 rfl hl (by decide) rfl (fun ls hl => ?_)
  refine lv_iload_n hx hb dX1_scanCommand_5 rfl (lv_at hl 0 rfl) ?_
  obtain ⟨v2, hv2, hF⟩ := oB hF
  refine call_i (wr := [(aT, .inr (1, [.ref aTc, .ref aTp, .int tL, .int tS, .int tQ, .int tF])), (aTc, .inl (K 2, 60, .inl tC)), (aTp, .inl (K 3, 240, .inl tP))]) (wn := [(aT, .inr (1, [.ref aTc, .ref aTp, .int tL, .int tS, .int tQ, .int tF])), (aTc, .inl (K 2, 60, .inl tC)), (aTp, .inl (K 3, 240, .inl tP))]) (va_runS (As := [.int v1.1]) (rest := []) ⟨hx, hb, hml, hown, hts⟩ (c_X1_isKind l D K v1.1 v2 hv2 H.size) (va_cwS 1 hts gX1_scanCommand_X1_isKind rfl rfl rfl (by decide +kernel) ⟨(Nat.le_of_ble_eq_true rfl), (Nat.le_of_ble_eq_true rfl)⟩) (prS hE hK hP hD hS hA [] rfl rfl) rfl rfl hl.1 rfl (lv_room (Nat.le_of_ble_eq_true rfl)) dX1_scanCommand_6 ⟨(Nat.le_of_ble_eq_true rfl), (Nat.le_of_ble_eq_true rfl)⟩) hP hD hS hA [] [0, 1, 2] [0, 1, 2] rfl rfl rfl (by decide) rfl rfl (fun H locs hP hD hS => ?_)
  refine lv_if_ne (tgt := 17) hx hb dX1_scanCommand_9 (by decide) (fun c3 => ?_) (fun c3 => ?_)
  · have hF := oF c3 hF
    refine lv_aload_n hx hb dX1_scanCommand_17 rfl (lv_at hl 1 rfl) ?_
    refine lv_dup hx hb dX1_scanCommand_18 rfl ?_
    refine va_get (D := D) (ci := 1) (v := .int tQ) (C := RX1) (T := TX1) (N := 6) hx hb hts (fun _ h => List.mem_cons_of_mem _ (List.mem_append_left _ (List.mem_append_right _ h))) hown hK hP 0 rfl rfl 4 (by decide) (hts (.fieldLink RX1 26 "BarometerClub$CommandText" "position" "I") (List.mem_of_getElem? (i := 1) rfl)) (fun _ h9 => h9) rfl dX1_scanCommand_19 ?_
    refine lv_iconst (v := (1 : Int32)) hx hb dX1_scanCommand_22 (by decide) ?_
    refine lv_iadd hx hb dX1_scanCommand_23 ?_
    refine va_put (D := D) (ci := 1) (v := .int (tQ + (1 : Int32))) (ty := .int) (C := RX1) (T := TX1) (N := 6) hx hb hts (fun _ h => List.mem_cons_of_mem _ (List.mem_append_left _ (List.mem_append_right _ h))) tyX1 tyX1_ok nmX1 hown hK hP hD hS 0 rfl rfl 4 (by decide) (hts (.fieldLink RX1 26 "BarometerClub$CommandText" "position" "I") (List.mem_of_getElem? (i := 1) rfl)) (fun _ h9 => h9) rfl (by decide +kernel) rfl rfl (Nat.le_of_ble_eq_true rfl) dX1_scanCommand_24 (fun H locs hP hD hS => ?_)
    have hP : va_P D vwC7 [(aT, .inr (1, [.ref aTc, .ref aTp, .int tL, .int tS, .int (tQ + (1 : Int32)), .int tF])), (aTc, .inl (K 2, 60, .inl tC)), (aTp, .inl (K 3, 240, .inl tP))] H := hP
    have hD : va_D A [(aT, .inr (1, [.ref aTc, .ref aTp, .int tL, .int tS, .int (tQ + (1 : Int32)), .int tF])), (aTc, .inl (K 2, 60, .inl tC)), (aTp, .inl (K 3, 240, .inl tP))] := hD
    refine lv_aload_n hx hb dX1_scanCommand_27 rfl (lv_at hl 1 rfl) ?_
    refine lv_iload_n hx hb dX1_scanCommand_28 rfl (lv_at hl 2 rfl) ?_
    refine lv_iconst (v := (0 : Int32)) hx hb dX1_scanCommand_29 (by decide) ?_
    refine lv_iload_n hx hb dX1_scanCommand_30 rfl (lv_at hl 0 rfl) ?_
    obtain ⟨v4, hv4, hF⟩ := oB hF
    refine call_v (wr := [(aTc, .inl (K 2, 60, .inl tC))]) (wn := [(aT, .inr (1, [.ref aTc, .ref aTp, .int tL, .int tS, .int (tQ + (1 : Int32)), .int tF])), (aTc, .inl (K 2, 60, .inl tC)), (aTp, .inl (K 3, 240, .inl v4))]) (va_runV (As := [.int p1, .int (0 : Int32), .int v1.1]) (rest := []) ⟨hx, hb, hml, hown, hts⟩ (c_X1_setNumber l D K aT aTc aTp tL tS (tQ + (1 : Int32)) tF tP p1 (0 : Int32) v1.1 v4 hv4 H.size) (cwV 3 hts gX1_scanCommand_X1_setNumber rfl rfl rfl (by decide +kernel) ⟨(Nat.le_of_ble_eq_true rfl), (Nat.le_of_ble_eq_true rfl)⟩) (prV hE hK hP hD hS hA [0, 2] rfl rfl 1 0 rfl rfl rfl) rfl rfl hl.1 rfl (lv_room (Nat.le_of_ble_eq_true rfl)) dX1_scanCommand_31 ⟨(Nat.le_of_ble_eq_true rfl), (Nat.le_of_ble_eq_true rfl)⟩) hP hD hS hA [0, 2] [1] [1, 0, 2] rfl rfl rfl (by decide) rfl rfl (fun H locs hP hD hS => ?_)
    refine lv_iload_n hx hb dX1_scanCommand_34 rfl (lv_at hl 0 rfl) ?_
    by_cases c5 : v1.1 = (100 : Int32)
    · have hF := oT c5 hF
      refine lv_lookup (off := 28) (tgt := 63) hx hb dX1_scanCommand_35 (by decide) (by rw [c5]; rfl) (by decide) ?_
      refine lv_aload_n hx hb dX1_scanCommand_63 rfl (lv_at hl 1 rfl) ?_
      refine lv_iload_n hx hb dX1_scanCommand_64 rfl (lv_at hl 2 rfl) ?_
      refine lv_iconst (v := (1 : Int32)) hx hb dX1_scanCommand_65 (by decide) ?_
      refine lv_aload_n hx hb dX1_scanCommand_66 rfl (lv_at hl 1 rfl) ?_
      obtain ⟨v6, hv6, hF⟩ := oB hF
      refine call_i (wr := [(aTp, .inl (K 3, 240, .inl v4))]) (wn := [(aT, .inr (1, [.ref aTc, .ref aTp, .int tL, .int tS, .int v6.2.1, .int v6.2.2])), (aTc, .inl (K 2, 60, .inl tC)), (aTp, .inl (K 3, 240, .inl v4))]) (va_runV (As := []) (rest := [.int (1 : Int32), .int p1, .ref aT]) ⟨hx, hb, hml, hown, hts⟩ (c_X1_scanChange l D K aT aTc aTp tL tS (tQ + (1 : Int32)) tF tC v6 hv6 H.size) (cwV 0 hts gX1_scanCommand_X1_scanChange rfl rfl rfl (by decide +kernel) ⟨(Nat.le_of_ble_eq_true rfl), (Nat.le_of_ble_eq_true rfl)⟩) (prV hE hK hP hD hS hA [0, 1] rfl rfl 1 0 rfl rfl rfl) rfl rfl hl.1 rfl (lv_room (Nat.le_of_ble_eq_true rfl)) dX1_scanCommand_67 ⟨(Nat.le_of_ble_eq_true rfl), (Nat.le_of_ble_eq_true rfl)⟩) hP hD hS hA [0, 1] [2] [1, 2, 0] rfl rfl rfl (by decide) rfl rfl (fun H locs hP hD hS => ?_)
      obtain ⟨v7, hv7, hF⟩ := oB hF
      refine call_v (wr := [(aTc, .inl (K 2, 60, .inl tC))]) (wn := [(aT, .inr (1, [.ref aTc, .ref aTp, .int tL, .int tS, .int v6.2.1, .int v6.2.2])), (aTc, .inl (K 2, 60, .inl tC)), (aTp, .inl (K 3, 240, .inl v7))]) (va_runV (As := [.int p1, .int (1 : Int32), .int v6.1]) (rest := []) ⟨hx, hb, hml, hown, hts⟩ (c_X1_setNumber l D K aT aTc aTp tL tS v6.2.1 v6.2.2 v4 p1 (1 : Int32) v6.1 v7 hv7 H.size) (cwV 3 hts gX1_scanCommand_X1_setNumber rfl rfl rfl (by decide +kernel) ⟨(Nat.le_of_ble_eq_true rfl), (Nat.le_of_ble_eq_true rfl)⟩) (prV hE hK hP hD hS hA [0, 2] rfl rfl 1 0 rfl rfl rfl) rfl rfl hl.1 rfl (lv_room (Nat.le_of_ble_eq_true rfl)) dX1_scanCommand_70 ⟨(Nat.le_of_ble_eq_true rfl), (Nat.le_of_ble_eq_true rfl)⟩) hP hD hS hA [0, 2] [1] [1, 0, 2] rfl rfl rfl (by decide) rfl rfl (fun H locs hP hD hS => ?_)
      refine lv_goto (tgt := 94) hx hb dX1_scanCommand_73 (by decide) ?_
      exact fin_v (u := (v6.2.1, v6.2.2, v7)) hF hx hb hr hlocks hK hP hD hS (Nat.le_of_ble_eq_true rfl) (Nat.le_of_ble_eq_true rfl) dX1_scanCommand_94
    have hF := oF c5 hF
    by_cases c8 : v1.1 = (114 : Int32)
    · have hF := oT c8 hF
      refine lv_lookup (off := 25) (tgt := 60) hx hb dX1_scanCommand_35 (by decide) (by rw [c8]; rfl) (by decide) ?_
      refine lv_goto (tgt := 94) hx hb dX1_scanCommand_60 (by decide) ?_
      exact fin_v (u := (tQ + (1 : Int32), tF, v4)) hF hx hb hr hlocks hK hP hD hS (Nat.le_of_ble_eq_true rfl) (Nat.le_of_ble_eq_true rfl) dX1_scanCommand_94
    have hF := oF c8 hF
    refine lv_lookup (off := 41) (tgt := 76) hx hb dX1_scanCommand_35 (by decide) ((lv_osw c5 rfl).trans ((lv_osw c8 rfl).trans rfl)) (by decide) ?_
    refine lv_aload_n hx hb dX1_scanCommand_76 rfl (lv_at hl 1 rfl) ?_
    refine lv_iload_n hx hb dX1_scanCommand_77 rfl (lv_at hl 2 rfl) ?_
    refine lv_iconst (v := (1 : Int32)) hx hb dX1_scanCommand_78 (by decide) ?_
    refine lv_aload_n hx hb dX1_scanCommand_79 rfl (lv_at hl 1 rfl) ?_
    refine lv_iconst (v := (1 : Int32)) hx hb dX1_scanCommand_80 (by decide) ?_
    refine lv_iconst (v := (1 : Int32)) hx hb dX1_scanCommand_81 (by decide) ?_
    obtain ⟨v9, hv9, hF⟩ := oB hF
    refine call_i (wr := [(aTp, .inl (K 3, 240, .inl v4))]) (wn := [(aT, .inr (1, [.ref aTc, .ref aTp, .int tL, .int tS, .int v9.2.1, .int v9.2.2])), (aTc, .inl (K 2, 60, .inl tC)), (aTp, .inl (K 3, 240, .inl v4))]) (va_runV (As := [.int (1 : Int32), .int (1 : Int32)]) (rest := [.int (1 : Int32), .int p1, .ref aT]) ⟨hx, hb, hml, hown, hts⟩ (c_X1_scanDigits l D K aT aTc aTp tL tS (tQ + (1 : Int32)) tF tC (1 : Int32) (1 : Int32) v9 hv9 H.size) (cwV 2 hts gX1_scanCommand_X1_scanDigits rfl rfl rfl (by decide +kernel) ⟨(Nat.le_of_ble_eq_true rfl), (Nat.le_of_ble_eq_true rfl)⟩) (prV hE hK hP hD hS hA [0, 1] rfl rfl 1 0 rfl rfl rfl) rfl rfl hl.1 rfl (lv_room (Nat.le_of_ble_eq_true rfl)) dX1_scanCommand_82 ⟨(Nat.le_of_ble_eq_true rfl), (Nat.le_of_ble_eq_true rfl)⟩) hP hD hS hA [0, 1] [2] [1, 2, 0] rfl rfl rfl (by decide) rfl rfl (fun H locs hP hD hS => ?_)
    obtain ⟨v10, hv10, hF⟩ := oB hF
    refine call_v (wr := [(aTc, .inl (K 2, 60, .inl tC))]) (wn := [(aT, .inr (1, [.ref aTc, .ref aTp, .int tL, .int tS, .int v9.2.1, .int v9.2.2])), (aTc, .inl (K 2, 60, .inl tC)), (aTp, .inl (K 3, 240, .inl v10))]) (va_runV (As := [.int p1, .int (1 : Int32), .int v9.1]) (rest := []) ⟨hx, hb, hml, hown, hts⟩ (c_X1_setNumber l D K aT aTc aTp tL tS v9.2.1 v9.2.2 v4 p1 (1 : Int32) v9.1 v10 hv10 H.size) (cwV 3 hts gX1_scanCommand_X1_setNumber rfl rfl rfl (by decide +kernel) ⟨(Nat.le_of_ble_eq_true rfl), (Nat.le_of_ble_eq_true rfl)⟩) (prV hE hK hP hD hS hA [0, 2] rfl rfl 1 0 rfl rfl rfl) rfl rfl hl.1 rfl (lv_room (Nat.le_of_ble_eq_true rfl)) dX1_scanCommand_85 ⟨(Nat.le_of_ble_eq_true rfl), (Nat.le_of_ble_eq_true rfl)⟩) hP hD hS hA [0, 2] [1] [1, 0, 2] rfl rfl rfl (by decide) rfl rfl (fun H locs hP hD hS => ?_)
    refine lv_aload_n hx hb dX1_scanCommand_88 rfl (lv_at hl 1 rfl) ?_
    refine lv_iload_n hx hb dX1_scanCommand_89 rfl (lv_at hl 2 rfl) ?_
    refine lv_iload_n hx hb dX1_scanCommand_90 rfl (lv_at hl 0 rfl) ?_
    obtain ⟨v11, hv11, hF⟩ := oB hF
    refine call_v (wr := []) (wn := [(aT, .inr (1, [.ref aTc, .ref aTp, .int tL, .int tS, .int v11.1, .int v11.2.1])), (aTc, .inl (K 2, 60, .inl tC)), (aTp, .inl (K 3, 240, .inl v11.2.2))]) (va_runV (As := [.int p1, .int v1.1]) (rest := []) ⟨hx, hb, hml, hown, hts⟩ (c_X1_scanBehindFirst l D K aT aTc aTp tL tS v9.2.1 v9.2.2 tC v10 p1 v1.1 v11 hv11 H.size) (cwV 2 hts gX1_scanCommand_X1_scanBehindFirst rfl rfl rfl (by decide +kernel) ⟨(Nat.le_of_ble_eq_true rfl), (Nat.le_of_ble_eq_true rfl)⟩) (prV hE hK hP hD hS hA [0, 1, 2] rfl rfl 1 0 rfl rfl rfl) rfl rfl hl.1 rfl (lv_room (Nat.le_of_ble_eq_true rfl)) dX1_scanCommand_91 ⟨(Nat.le_of_ble_eq_true rfl), (Nat.le_of_ble_eq_true rfl)⟩) hP hD hS hA [0, 1, 2] [] [0, 1, 2] rfl rfl rfl (by decide) rfl rfl (fun H locs hP hD hS => ?_)
    exact fin_v (u := (v11.1, v11.2.1, v11.2.2)) hF hx hb hr hlocks hK hP hD hS (Nat.le_of_ble_eq_true rfl) (Nat.le_of_ble_eq_true rfl) dX1_scanCommand_94
  · have hF := oT c3 hF
    refine lv_aload_n hx hb dX1_scanCommand_12 rfl (lv_at hl 1 rfl) ?_
    obtain ⟨v12, hv12, hF⟩ := oB hF
    refine call_v (wr := [(aTc, .inl (K 2, 60, .inl tC)), (aTp, .inl (K 3, 240, .inl tP))]) (wn := [(aT, .inr (1, [.ref aTc, .ref aTp, .int tL, .int tS, .int tQ, .int v12])), (aTc, .inl (K 2, 60, .inl tC)), (aTp, .inl (K 3, 240, .inl tP))]) (va_runV (As := []) (rest := []) ⟨hx, hb, hml, hown, hts⟩ (c_X1_markFault l D K aT aTc aTp tL tS tQ tF v12 hv12 H.size) (cwV 0 hts gX1_scanCommand_X1_markFault rfl rfl rfl (by decide +kernel) ⟨(Nat.le_of_ble_eq_true rfl), (Nat.le_of_ble_eq_true rfl)⟩) (prV hE hK hP hD hS hA [0] rfl rfl 1 0 rfl rfl rfl) rfl rfl hl.1 rfl (lv_room (Nat.le_of_ble_eq_true rfl)) dX1_scanCommand_13 ⟨(Nat.le_of_ble_eq_true rfl), (Nat.le_of_ble_eq_true rfl)⟩) hP hD hS hA [0] [1, 2] [2, 0, 1] rfl rfl rfl (by decide) rfl rfl (fun H locs hP hD hS => ?_)
    exact fin_v (u := (tQ, v12, tP)) hF hx hb hr hlocks hK hP hD hS (Nat.le_of_ble_eq_true rfl) (Nat.le_of_ble_eq_true rfl) dX1_scanCommand_16
abbrev RM_X1_scan : Room := { frames := 4, cells := 0, slots := 0, locals := 89 }
abbrev MC_X1_scan : Nat := 0
abbrev MS_X1_scan : Nat := 0
abbrev wf_X1_scan (K : Nat → ClassId) (aT : Nat) (aTc : Nat) (aTp : Nat) (tL : Int32) (tC : Nat → Int32) (v : Int32 × Int32 × Int32 × Int32 × (Nat → Int32)) : va_W := [(aT, .inr (1, [.ref aTc, .ref aTp, .int tL, .int v.2.1, .int v.2.2.1, .int v.2.2.2.1])), (aTc, .inl (K 2, 60, .inl tC)), (aTp, .inl (K 3, 240, .inl v.2.2.2.2))]
set_option maxHeartbeats 4000000 in
set_option maxRecDepth 100000 in
theorem c_X1_scan (l : Launch) (D : va_G) (K : Nat → ClassId) (aT : Nat) (aTc : Nat) (aTp : Nat) (tL : Int32) (tS : Int32) (tQ : Int32) (tF : Int32) (tC : Nat → Int32) (tP : Nat → Int32)  (v : Int32 × Int32 × Int32 × Int32 × (Nat → Int32)) (hF : f_X1_scan tL tS tQ tF tC tP = some v) (sz : Nat) :
    (Met l yX1_scan wsX1_scan RM_X1_scan (PC D (TY K) [(aT, .inr (1, [.ref aTc, .ref aTp, .int tL, .int tS, .int tQ, .int tF])), (aTc, .inl (K 2, 60, .inl tC)), (aTp, .inl (K 3, 240, .inl tP))] [.ref aT] sz) (QI D (TY K) (wf_X1_scan K aT aTc aTp tL tC) v (va_A [(aT, .inr (1, [.ref aTc, .ref aTp, .int tL, .int tS, .int tQ, .int tF])), (aTc, .inl (K 2, 60, .inl tC)), (aTp, .inl (K 3, 240, .inl tP))] sz)) MC_X1_scan MS_X1_scan (va_A [(aT, .inr (1, [.ref aTc, .ref aTp, .int tL, .int tS, .int tQ, .int tF])), (aTc, .inl (K 2, 60, .inl tC)), (aTp, .inl (K 3, 240, .inl tP))] sz)) := by
  refine pro (Qf := fun A => QI D (TY K) (wf_X1_scan K aT aTc aTp tL tC) v A) (cc := cX1_scan) (maxL := 2) (ret := (some .int)) (by decide +kernel) rfl (Nat.le_of_ble_eq_true rfl) ?_
  intro p e s m args below meth c hx hb hr hts hown hlocks hml hini hK A hA hE hP hD hS ls hl
  have hown : s.vm.findClass RX1 = some m.cls := hown
  have hl : lv_has ls 2 [(0, .ref aT)] := hl
  have loop_17 : ∀  (n : Nat) (y17_1 : Int32) (tS_17 : Int32) (tQ_17 : Int32) (tF_17 : Int32) (tP_17 : Nat → Int32), f_X1_scan_L17 tL tC n y17_1 tS_17 tQ_17 tF_17 tP_17 = some v → ∀ (H : Heap) (locs : List Loc), va_P D vwC7 [(aT, .inr (1, [.ref aTc, .ref aTp, .int tL, .int tS_17, .int tQ_17, .int tF_17])), (aTc, .inl (K 2, 60, .inl tC)), (aTp, .inl (K 3, 240, .inl tP_17))] H → va_D A [(aT, .inr (1, [.ref aTc, .ref aTp, .int tL, .int tS_17, .int tQ_17, .int tF_17])), (aTc, .inl (K 2, 60, .inl tC)), (aTp, .inl (K 3, 240, .inl tP_17))] → va_S A s.heap H locs → ∀ ls : Array Slot, lv_has ls 2 [(0, .ref aT), (1, .int y17_1)] → W p l e RM_X1_scan s m args below meth c H locs 0 0 (MQ below (QI D (TY K) (wf_X1_scan K aT aTc aTp tL tC) v A) args s MC_X1_scan MS_X1_scan A) (F0 m 17 ls []) := by
    intro  n
    induction n with
    | zero =>
      intro y17_1 tS_17 tQ_17 tF_17 tP_17 hF
      exact nomatch hF
    | succ n ih =>
      intro y17_1 tS_17 tQ_17 tF_17 tP_17 hF H locs hP hD hS ls hl
      rw [f_X1_scan_L17.eq_2] at hF
      refine lv_iload_n hx hb dX1_scan_17 rfl (lv_at hl 1 rfl) ?_
      refine lv_bipush (v := (60 : Int32)) hx hb dX1_scan_18 (by decide) ?_
      refine lv_icmp_ge (tgt := 69) hx hb dX1_scan_20 (by decide) (fun c1 => ?_) (fun c1 => ?_)
      · have hF := oT c1 hF
        refine lv_aload_n hx hb dX1_scan_69 rfl (lv_at hl 0 rfl) ?_
        refine va_get (D := D) (ci := 1) (v := .int tF_17) (C := RX1) (T := TX1) (N := 6) hx hb hts (fun _ h => List.mem_cons_of_mem _ (List.mem_append_left _ (List.mem_append_right _ h))) hown hK hP 0 rfl rfl 5 (by decide) (hts (.fieldLink RX1 29 "BarometerClub$CommandText" "fault" "I") (List.mem_of_getElem? (i := 2) rfl)) (fun _ h9 => h9) rfl dX1_scan_70 ?_
        exact fin_i (u := (tF_17, (tS_17, tQ_17, tF_17, tP_17))) hF hx hb hr hlocks hK hP hD hS (Nat.le_of_ble_eq_true rfl) (Nat.le_of_ble_eq_true rfl) dX1_scan_73
      · have hF := oF c1 hF
        refine lv_aload_n hx hb dX1_scan_23 rfl (lv_at hl 0 rfl) ?_
        refine lv_iload_n hx hb dX1_scan_24 rfl (lv_at hl 1 rfl) ?_
        obtain ⟨v2, hv2, hF⟩ := oB hF
        refine call_v (wr := []) (wn := [(aT, .inr (1, [.ref aTc, .ref aTp, .int tL, .int tS_17, .int v2.1, .int v2.2.1])), (aTc, .inl (K 2, 60, .inl tC)), (aTp, .inl (K 3, 240, .inl v2.2.2))]) (va_runV (As := [.int y17_1]) (rest := []) ⟨hx, hb, hml, hown, hts⟩ (c_X1_scanCommand l D K aT aTc aTp tL tS_17 tQ_17 tF_17 tC tP_17 y17_1 v2 hv2 H.size) (cwV 1 hts gX1_scan_X1_scanCommand rfl rfl rfl (by decide +kernel) ⟨(Nat.le_of_ble_eq_true rfl), (Nat.le_of_ble_eq_true rfl)⟩) (prV hE hK hP hD hS hA [0, 1, 2] rfl rfl 1 0 rfl rfl rfl) rfl rfl hl.1 rfl (lv_room (Nat.le_of_ble_eq_true rfl)) dX1_scan_25 ⟨(Nat.le_of_ble_eq_true rfl), (Nat.le_of_ble_eq_true rfl)⟩) hP hD hS hA [0, 1, 2] [] [0, 1, 2] rfl rfl rfl (by decide) rfl rfl (fun H locs hP hD hS => ?_)
        refine lv_aload_n hx hb dX1_scan_28 rfl (lv_at hl 0 rfl) ?_
        refine lv_iload_n hx hb dX1_scan_29 rfl (lv_at hl 1 rfl) ?_
        refine lv_iconst (v := (1 : Int32)) hx hb dX1_scan_30 (by decide) ?_
        refine lv_iadd hx hb dX1_scan_31 ?_
        refine va_put (D := D) (ci := 1) (v := .int (y17_1 + (1 : Int32))) (ty := .int) (C := RX1) (T := TX1) (N := 6) hx hb hts (fun _ h => List.mem_cons_of_mem _ (List.mem_append_left _ (List.mem_append_right _ h))) tyX1 tyX1_ok nmX1 hown hK hP hD hS 0 rfl rfl 3 (by decide) (hts (.fieldLink RX1 23 "BarometerClub$CommandText" "size" "I") (List.mem_of_getElem? (i := 3) rfl)) (fun _ h9 => h9) rfl (by decide +kernel) rfl rfl (Nat.le_of_ble_eq_true rfl) dX1_scan_32 (fun H locs hP hD hS => ?_)
        have hP : va_P D vwC7 [(aT, .inr (1, [.ref aTc, .ref aTp, .int tL, .int (y17_1 + (1 : Int32)), .int v2.1, .int v2.2.1])), (aTc, .inl (K 2, 60, .inl tC)), (aTp, .inl (K 3, 240, .inl v2.2.2))] H := hP
        have hD : va_D A [(aT, .inr (1, [.ref aTc, .ref aTp, .int tL, .int (y17_1 + (1 : Int32)), .int v2.1, .int v2.2.1])), (aTc, .inl (K 2, 60, .inl tC)), (aTp, .inl (K 3, 240, .inl v2.2.2))] := hD
        refine lv_aload_n hx hb dX1_scan_35 rfl (lv_at hl 0 rfl) ?_
        refine va_get (D := D) (ci := 1) (v := .int v2.2.1) (C := RX1) (T := TX1) (N := 6) hx hb hts (fun _ h => List.mem_cons_of_mem _ (List.mem_append_left _ (List.mem_append_right _ h))) hown hK hP 0 rfl rfl 5 (by decide) (hts (.fieldLink RX1 29 "BarometerClub$CommandText" "fault" "I") (List.mem_of_getElem? (i := 2) rfl)) (fun _ h9 => h9) rfl dX1_scan_36 ?_
        refine lv_iconst (v := (-1 : Int32)) hx hb dX1_scan_39 (by decide) ?_
        refine lv_icmp_ne (tgt := 69) hx hb dX1_scan_40 (by decide) (fun c3 => ?_) (fun c3 => ?_)
        · have hF := oF c3 hF
          refine lv_aload_n hx hb dX1_scan_69 rfl (lv_at hl 0 rfl) ?_
          refine va_get (D := D) (ci := 1) (v := .int v2.2.1) (C := RX1) (T := TX1) (N := 6) hx hb hts (fun _ h => List.mem_cons_of_mem _ (List.mem_append_left _ (List.mem_append_right _ h))) hown hK hP 0 rfl rfl 5 (by decide) (hts (.fieldLink RX1 29 "BarometerClub$CommandText" "fault" "I") (List.mem_of_getElem? (i := 2) rfl)) (fun _ h9 => h9) rfl dX1_scan_70 ?_
          exact fin_i (u := (v2.2.1, (y17_1 + (1 : Int32), v2.1, v2.2.1, v2.2.2))) hF hx hb hr hlocks hK hP hD hS (Nat.le_of_ble_eq_true rfl) (Nat.le_of_ble_eq_true rfl) dX1_scan_73
        · have hF := oT c3 hF
          refine lv_aload_n hx hb dX1_scan_43 rfl (lv_at hl 0 rfl) ?_
          refine va_get (D := D) (ci := 1) (v := .int v2.1) (C := RX1) (T := TX1) (N := 6) hx hb hts (fun _ h => List.mem_cons_of_mem _ (List.mem_append_left _ (List.mem_append_right _ h))) hown hK hP 0 rfl rfl 4 (by decide) (hts (.fieldLink RX1 26 "BarometerClub$CommandText" "position" "I") (List.mem_of_getElem? (i := 1) rfl)) (fun _ h9 => h9) rfl dX1_scan_44 ?_
          refine lv_aload_n hx hb dX1_scan_47 rfl (lv_at hl 0 rfl) ?_
          refine va_get (D := D) (ci := 1) (v := .int tL) (C := RX1) (T := TX1) (N := 6) hx hb hts (fun _ h => List.mem_cons_of_mem _ (List.mem_append_left _ (List.mem_append_right _ h))) hown hK hP 0 rfl rfl 2 (by decide) (hts (.fieldLink RX1 19 "BarometerClub$CommandText" "length" "I") (List.mem_of_getElem? (i := 4) rfl)) (fun _ h9 => h9) rfl dX1_scan_48 ?_
          refine lv_icmp_lt (tgt := 57) hx hb dX1_scan_51 (by decide) (fun c4 => ?_) (fun c4 => ?_)
          · have hF := oT c4 hF
            refine lv_aload_n hx hb dX1_scan_57 rfl (lv_at hl 0 rfl) ?_
            refine lv_bipush (v := (59 : Int32)) hx hb dX1_scan_58 (by decide) ?_
            obtain ⟨v5, hv5, hF⟩ := oB hF
            refine call_v (wr := [(aTp, .inl (K 3, 240, .inl v2.2.2))]) (wn := [(aT, .inr (1, [.ref aTc, .ref aTp, .int tL, .int (y17_1 + (1 : Int32)), .int v5.1, .int v5.2])), (aTc, .inl (K 2, 60, .inl tC)), (aTp, .inl (K 3, 240, .inl v2.2.2))]) (va_runV (As := [.int (59 : Int32)]) (rest := []) ⟨hx, hb, hml, hown, hts⟩ (c_X1_scanSign l D K aT aTc aTp tL (y17_1 + (1 : Int32)) v2.1 v2.2.1 tC (59 : Int32) v5 hv5 H.size) (cwV 1 hts gX1_scan_X1_scanSign rfl rfl rfl (by decide +kernel) ⟨(Nat.le_of_ble_eq_true rfl), (Nat.le_of_ble_eq_true rfl)⟩) (prV hE hK hP hD hS hA [0, 1] rfl rfl 1 0 rfl rfl rfl) rfl rfl hl.1 rfl (lv_room (Nat.le_of_ble_eq_true rfl)) dX1_scan_60 ⟨(Nat.le_of_ble_eq_true rfl), (Nat.le_of_ble_eq_true rfl)⟩) hP hD hS hA [0, 1] [2] [1, 2, 0] rfl rfl rfl (by decide) rfl rfl (fun H locs hP hD hS => ?_)
            refine lv_iinc (v := y17_1 + (1 : Int32)) (lv' := [(1, .int (y17_1 + (1 : Int32))), (0, .ref aT)]) hx hb dX1_scan_63 hl (k := 1) rfl (by first | rfl | decide) (by decide) rfl (fun ls hl => ?_)
            refine lv_goto (tgt := 17) hx hb dX1_scan_66 (by decide) ?_
            exact ih (y17_1 + (1 : Int32)) (y17_1 + (1 : Int32)) v5.1 v5.2 v2.2.2 hF _ _ hP hD hS _ (lv_sub hl [1, 0] rfl)
          · have hF := oF c4 hF
            refine lv_goto (tgt := 69) hx hb dX1_scan_54 (by decide) ?_
            refine lv_aload_n hx hb dX1_scan_69 rfl (lv_at hl 0 rfl) ?_
            refine va_get (D := D) (ci := 1) (v := .int v2.2.1) (C := RX1) (T := TX1) (N := 6) hx hb hts (fun _ h => List.mem_cons_of_mem _ (List.mem_append_left _ (List.mem_append_right _ h))) hown hK hP 0 rfl rfl 5 (by decide) (hts (.fieldLink RX1 29 "BarometerClub$CommandText" "fault" "I") (List.mem_of_getElem? (i := 2) rfl)) (fun _ h9 => h9) rfl dX1_scan_70 ?_
            exact fin_i (u := (v2.2.1, (y17_1 + (1 : Int32), v2.1, v2.2.1, v2.2.2))) hF hx hb hr hlocks hK hP hD hS (Nat.le_of_ble_eq_true rfl) (Nat.le_of_ble_eq_true rfl) dX1_scan_73
  rw [f_X1_scan] at hF
  refine lv_aload_n hx hb dX1_scan_0 rfl (lv_at hl 0 rfl) ?_
  refine lv_iconst (v := (0 : Int32)) hx hb dX1_scan_1 (by decide) ?_
  refine va_put (D := D) (ci := 1) (v := .int (0 : Int32)) (ty := .int) (C := RX1) (T := TX1) (N := 6) hx hb hts (fun _ h => List.mem_cons_of_mem _ (List.mem_append_left _ (List.mem_append_right _ h))) tyX1 tyX1_ok nmX1 hown hK hP hD hS 0 rfl rfl 4 (by decide) (hts (.fieldLink RX1 26 "BarometerClub$CommandText" "position" "I") (List.mem_of_getElem? (i := 1) rfl)) (fun _ h9 => h9) rfl (by decide +kernel) rfl rfl (Nat.le_of_ble_eq_true rfl) dX1_scan_2 (fun H locs hP hD hS => ?_)
  have hP : va_P D vwC7 [(aT, .inr (1, [.ref aTc, .ref aTp, .int tL, .int tS, .int (0 : Int32), .int tF])), (aTc, .inl (K 2, 60, .inl tC)), (aTp, .inl (K 3, 240, .inl tP))] H := hP
  have hD : va_D A [(aT, .inr (1, [.ref aTc, .ref aTp, .int tL, .int tS, .int (0 : Int32), .int tF])), (aTc, .inl (K 2, 60, .inl tC)), (aTp, .inl (K 3, 240, .inl tP))] := hD
  refine lv_aload_n hx hb dX1_scan_5 rfl (lv_at hl 0 rfl) ?_
  refine lv_iconst (v := (-1 : Int32)) hx hb dX1_scan_6 (by decide) ?_
  refine va_put (D := D) (ci := 1) (v := .int (-1 : Int32)) (ty := .int) (C := RX1) (T := TX1) (N := 6) hx hb hts (fun _ h => List.mem_cons_of_mem _ (List.mem_append_left _ (List.mem_append_right _ h))) tyX1 tyX1_ok nmX1 hown hK hP hD hS 0 rfl rfl 5 (by decide) (hts (.fieldLink RX1 29 "BarometerClub$CommandText" "fault" "I") (List.mem_of_getElem? (i := 2) rfl)) (fun _ h9 => h9) rfl (by decide +kernel) rfl rfl (Nat.le_of_ble_eq_true rfl) dX1_scan_7 (fun H locs hP hD hS => ?_)
  have hP : va_P D vwC7 [(aT, .inr (1, [.ref aTc, .ref aTp, .int tL, .int tS, .int (0 : Int32), .int (-1 : Int32)])), (aTc, .inl (K 2, 60, .inl tC)), (aTp, .inl (K 3, 240, .inl tP))] H := hP
  have hD : va_D A [(aT, .inr (1, [.ref aTc, .ref aTp, .int tL, .int tS, .int (0 : Int32), .int (-1 : Int32)])), (aTc, .inl (K 2, 60, .inl tC)), (aTp, .inl (K 3, 240, .inl tP))] := hD
  refine lv_aload_n hx hb dX1_scan_10 rfl (lv_at hl 0 rfl) ?_
  refine lv_iconst (v := (0 : Int32)) hx hb dX1_scan_11 (by decide) ?_
  refine va_put (D := D) (ci := 1) (v := .int (0 : Int32)) (ty := .int) (C := RX1) (T := TX1) (N := 6) hx hb hts (fun _ h => List.mem_cons_of_mem _ (List.mem_append_left _ (List.mem_append_right _ h))) tyX1 tyX1_ok nmX1 hown hK hP hD hS 0 rfl rfl 3 (by decide) (hts (.fieldLink RX1 23 "BarometerClub$CommandText" "size" "I") (List.mem_of_getElem? (i := 3) rfl)) (fun _ h9 => h9) rfl (by decide +kernel) rfl rfl (Nat.le_of_ble_eq_true rfl) dX1_scan_12 (fun H locs hP hD hS => ?_)
  have hP : va_P D vwC7 [(aT, .inr (1, [.ref aTc, .ref aTp, .int tL, .int (0 : Int32), .int (0 : Int32), .int (-1 : Int32)])), (aTc, .inl (K 2, 60, .inl tC)), (aTp, .inl (K 3, 240, .inl tP))] H := hP
  have hD : va_D A [(aT, .inr (1, [.ref aTc, .ref aTp, .int tL, .int (0 : Int32), .int (0 : Int32), .int (-1 : Int32)])), (aTc, .inl (K 2, 60, .inl tC)), (aTp, .inl (K 3, 240, .inl tP))] := hD
  refine lv_iconst (v := (0 : Int32)) hx hb dX1_scan_15 (by decide) ?_
  refine lv_istore_n (lv' := [(1, .int (0 : Int32)), (0, .ref aT)]) hx hb dX1_scan_16 rfl hl (by decide) rfl (fun ls hl => ?_)
  exact loop_17  FU (0 : Int32) (0 : Int32) (0 : Int32) (-1 : Int32) tP hF _ _ hP hD hS _ (lv_sub hl [1, 0] rfl)
abbrev RM_X4_length : Room := { frames := 0, cells := 0, slots := 0, locals := 0 }
abbrev MC_X4_length : Nat := 0
abbrev MS_X4_length : Nat := 0
abbrev wf_X4_length (K : Nat → ClassId) (aL : Nat) (aLc : Nat) (lL : Int32) (v : Int32 × Unit) : va_W := [(aL, .inr (3, [.ref aLc, .int lL]))]
set_option maxHeartbeats 4000000 in
set_option maxRecDepth 100000 in
theorem c_X4_length (l : Launch) (D : va_G) (K : Nat → ClassId) (aL : Nat) (aLc : Nat) (lL : Int32)  (v : Int32 × Unit) (hF : f_X4_length lL = some v) (sz : Nat) :
    (Met l yX4_length wsX4_length RM_X4_length (PC D (TY K) [(aL, .inr (3, [.ref aLc, .int lL]))] [.ref aL] sz) (QI D (TY K) (wf_X4_length K aL aLc lL) v (va_A [(aL, .inr (3, [.ref aLc, .int lL]))] sz)) MC_X4_length MS_X4_length (va_A [(aL, .inr (3, [.ref aLc, .int lL]))] sz)) := by
  refine pro (Qf := fun A => QI D (TY K) (wf_X4_length K aL aLc lL) v A) (cc := cX4_length) (maxL := 1) (ret := (some .int)) (by decide +kernel) rfl (Nat.le_of_ble_eq_true rfl) ?_
  intro p e s m args below meth c hx hb hr hts hown hlocks hml hini hK A hA hE hP hD hS ls hl
  have hown : s.vm.findClass RX4 = some m.cls := hown
  have hl : lv_has ls 1 [(0, .ref aL)] := hl
  rw [f_X4_length] at hF
  refine lv_aload_n hx hb dX4_length_0 rfl (lv_at hl 0 rfl) ?_
  refine va_get (D := D) (ci := 3) (v := .int lL) (C := RX4) (T := TX4) (N := 2) hx hb hts (fun _ h => List.mem_cons_of_mem _ (List.mem_append_right _ h)) hown hK hP 0 rfl rfl 1 (by decide) (hts (.fieldLink RX4 15 "BarometerClub$Line" "length" "I") (List.mem_of_getElem? (i := 1) rfl)) (fun _ h9 => h9) rfl dX4_length_1 ?_
  exact fin_i (u := (lL, ())) hF hx hb hr hlocks hK hP hD hS (Nat.le_of_ble_eq_true rfl) (Nat.le_of_ble_eq_true rfl) dX4_length_4
abbrev RM_X4_at : Room := { frames := 0, cells := 0, slots := 0, locals := 0 }
abbrev MC_X4_at : Nat := 0
abbrev MS_X4_at : Nat := 0
abbrev wf_X4_at (K : Nat → ClassId) (aL : Nat) (aLc : Nat) (lL : Int32) (lC : Nat → Int32) (v : Int32 × Unit) : va_W := [(aL, .inr (3, [.ref aLc, .int lL])), (aLc, .inl (K 4, 32, .inl lC))]
set_option maxHeartbeats 4000000 in
set_option maxRecDepth 100000 in
theorem c_X4_at (l : Launch) (D : va_G) (K : Nat → ClassId) (aL : Nat) (aLc : Nat) (lL : Int32) (lC : Nat → Int32) (p1 : Int32) (v : Int32 × Unit) (hF : f_X4_at lC p1 = some v) (sz : Nat) :
    (Met l yX4_at wsX4_at RM_X4_at (PC D (TY K) [(aL, .inr (3, [.ref aLc, .int lL])), (aLc, .inl (K 4, 32, .inl lC))] [.ref aL, .int p1] sz) (QI D (TY K) (wf_X4_at K aL aLc lL lC) v (va_A [(aL, .inr (3, [.ref aLc, .int lL])), (aLc, .inl (K 4, 32, .inl lC))] sz)) MC_X4_at MS_X4_at (va_A [(aL, .inr (3, [.ref aLc, .int lL])), (aLc, .inl (K 4, 32, .inl lC))] sz)) := by
  refine pro (Qf := fun A => QI D (TY K) (wf_X4_at K aL aLc lL lC) v A) (cc := cX4_at) (maxL := 2) (ret := (some .char)) (by decide +kernel) rfl (Nat.le_of_ble_eq_true rfl) ?_
  intro p e s m args below meth c hx hb hr hts hown hlocks hml hini hK A hA hE hP hD hS ls hl
  have hown : s.vm.findClass RX4 = some m.cls := hown
  have hl : lv_has ls 2 [(0, .ref aL), (1, .int p1)] := hl
  rw [f_X4_at] at hF
  refine lv_iload_n hx hb dX4_at_0 rfl (lv_at hl 1 rfl) ?_
  refine lv_if_lt (tgt := 19) hx hb dX4_at_1 (by decide) (fun c1 => ?_) (fun c1 => ?_)
  · have hF := oT c1 hF
    refine lv_iconst (v := (0 : Int32)) hx hb dX4_at_19 (by decide) ?_
    exact fin_z (u := ((0 : Int32), ())) hF (okN_n (ty := .char) (x := (0 : Int32)) (by decide)) hx hb hr hlocks hK hP hD hS (Nat.le_of_ble_eq_true rfl) (Nat.le_of_ble_eq_true rfl) dX4_at_20
  · have hF := oF c1 hF
    refine lv_iload_n hx hb dX4_at_4 rfl (lv_at hl 1 rfl) ?_
    refine lv_bipush (v := (32 : Int32)) hx hb dX4_at_5 (by decide) ?_
    refine lv_icmp_ge (tgt := 19) hx hb dX4_at_7 (by decide) (fun c2 => ?_) (fun c2 => ?_)
    · have hF := oT c2 hF
      refine lv_iconst (v := (0 : Int32)) hx hb dX4_at_19 (by decide) ?_
      exact fin_z (u := ((0 : Int32), ())) hF (okN_n (ty := .char) (x := (0 : Int32)) (by decide)) hx hb hr hlocks hK hP hD hS (Nat.le_of_ble_eq_true rfl) (Nat.le_of_ble_eq_true rfl) dX4_at_20
    · have hF := oF c2 hF
      refine lv_aload_n hx hb dX4_at_10 rfl (lv_at hl 0 rfl) ?_
      refine va_get (D := D) (ci := 3) (v := .ref aLc) (C := RX4) (T := TX4) (N := 2) hx hb hts (fun _ h => List.mem_cons_of_mem _ (List.mem_append_left _ (List.mem_append_right _ h))) hown hK hP 0 rfl rfl 0 (by decide) (hts (.fieldLink RX4 11 "BarometerClub$Line" "characters" "[C") (List.mem_of_getElem? (i := 1) rfl)) (fun _ h9 => h9) rfl dX4_at_11 ?_
      refine lv_iload_n hx hb dX4_at_14 rfl (lv_at hl 1 rfl) ?_
      obtain ⟨g3, hF⟩ := oG hF
      refine va_cald hx hb hK hP 1 4 rfl rfl (inB_in g3) dX4_at_15 ?_
      refine lv_goto (tgt := 20) hx hb dX4_at_16 (by decide) ?_
      obtain ⟨g4, hF⟩ := oG hF
      exact fin_z (u := (lC p1.toNatClampNeg, ())) hF (okN_n g4) hx hb hr hlocks hK hP hD hS (Nat.le_of_ble_eq_true rfl) (Nat.le_of_ble_eq_true rfl) dX4_at_20
abbrev RM_X4_digit : Room := { frames := 0, cells := 0, slots := 0, locals := 0 }
abbrev MC_X4_digit : Nat := 0
abbrev MS_X4_digit : Nat := 0
abbrev wf_X4_digit (K : Nat → ClassId)   (v : Int32 × Unit) : va_W := []
set_option maxHeartbeats 4000000 in
set_option maxRecDepth 100000 in
theorem c_X4_digit (l : Launch) (D : va_G) (K : Nat → ClassId)   (p1 : Int32) (v : Int32 × Unit) (hF : f_X4_digit p1 = some v) (sz : Nat) :
    (Met l yX4_digit wsX4_digit RM_X4_digit (PC D (TY K) [] [.int p1] sz) (QI D (TY K) (wf_X4_digit K) v (va_A [] sz)) MC_X4_digit MS_X4_digit (va_A [] sz)) := by
  refine pro (Qf := fun A => QI D (TY K) (wf_X4_digit K) v A) (cc := cX4_digit) (maxL := 1) (ret := (some .char)) (by decide +kernel) rfl (Nat.le_of_ble_eq_true rfl) ?_
  intro p e s m args below meth c hx hb hr hts hown hlocks hml hini hK A hA hE hP hD hS ls hl
  have hown : s.vm.findClass RX4 = some m.cls := hown
  have hl : lv_has ls 1 [(0, .int p1)] := hl
  rw [f_X4_digit] at hF
  refine lv_bipush (v := (48 : Int32)) hx hb dX4_digit_0 (by decide) ?_
  refine lv_iload_n hx hb dX4_digit_2 rfl (lv_at hl 0 rfl) ?_
  refine lv_iadd hx hb dX4_digit_3 ?_
  refine lv_i2c (v := (((48 : Int32) + p1).toUInt32 % 65536).toInt32) hx hb dX4_digit_4 rfl ?_
  obtain ⟨g1, hF⟩ := oG hF
  exact fin_z (u := ((((48 : Int32) + p1).toUInt32 % 65536).toInt32, ())) hF (okN_n g1) hx hb hr hlocks hK hP hD hS (Nat.le_of_ble_eq_true rfl) (Nat.le_of_ble_eq_true rfl) dX4_digit_5
abbrev RM_X4_add : Room := { frames := 0, cells := 0, slots := 0, locals := 0 }
abbrev MC_X4_add : Nat := 0
abbrev MS_X4_add : Nat := 0
abbrev wf_X4_add (K : Nat → ClassId) (aL : Nat) (aLc : Nat)  (v : Int32 × (Nat → Int32)) : va_W := [(aL, .inr (3, [.ref aLc, .int v.1])), (aLc, .inl (K 4, 32, .inl v.2))]
set_option maxHeartbeats 4000000 in
set_option maxRecDepth 100000 in
theorem c_X4_add (l : Launch) (D : va_G) (K : Nat → ClassId) (aL : Nat) (aLc : Nat) (lL : Int32) (lC : Nat → Int32) (p1 : Int32) (v : Int32 × (Nat → Int32)) (hF : f_X4_add lL lC p1 = some v) (sz : Nat) :
    (Met l yX4_add wsX4_add RM_X4_add (PC D (TY K) [(aL, .inr (3, [.ref aLc, .int lL])), (aLc, .inl (K 4, 32, .inl lC))] [.ref aL, .int p1] sz) (QV D (TY K) (wf_X4_add K aL aLc) v (va_A [(aL, .inr (3, [.ref aLc, .int lL])), (aLc, .inl (K 4, 32, .inl lC))] sz)) MC_X4_add MS_X4_add (va_A [(aL, .inr (3, [.ref aLc, .int lL])), (aLc, .inl (K 4, 32, .inl lC))] sz)) := by
  refine pro (Qf := fun A => QV D (TY K) (wf_X4_add K aL aLc) v A) (cc := cX4_add) (maxL := 2) (ret := none) (by decide +kernel) rfl (Nat.le_of_ble_eq_true rfl) ?_
  intro p e s m args below meth c hx hb hr hts hown hlocks hml hini hK A hA hE hP hD hS ls hl
  have hown : s.vm.findClass RX4 = some m.cls := hown
  have hl : lv_has ls 2 [(0, .ref aL), (1, .int p1)] := hl
  rw [f_X4_add] at hF
  refine lv_aload_n hx hb dX4_add_0 rfl (lv_at hl 0 rfl) ?_
  refine va_get (D := D) (ci := 3) (v := .int lL) (C := RX4) (T := TX4) (N := 2) hx hb hts (fun _ h => List.mem_cons_of_mem _ (List.mem_append_left _ (List.mem_append_right _ h))) hown hK hP 0 rfl rfl 1 (by decide) (hts (.fieldLink RX4 15 "BarometerClub$Line" "length" "I") (List.mem_of_getElem? (i := 1) rfl)) (fun _ h9 => h9) rfl dX4_add_1 ?_
  refine lv_if_lt (tgt := 36) hx hb dX4_add_4 (by decide) (fun c1 => ?_) (fun c1 => ?_)
  · have hF := oT c1 hF
    exact fin_v (u := (lL, lC)) hF hx hb hr hlocks hK hP hD hS (Nat.le_of_ble_eq_true rfl) (Nat.le_of_ble_eq_true rfl) dX4_add_36
  · have hF := oF c1 hF
    refine lv_aload_n hx hb dX4_add_7 rfl (lv_at hl 0 rfl) ?_
    refine va_get (D := D) (ci := 3) (v := .int lL) (C := RX4) (T := TX4) (N := 2) hx hb hts (fun _ h => List.mem_cons_of_mem _ (List.mem_append_left _ (List.mem_append_right _ h))) hown hK hP 0 rfl rfl 1 (by decide) (hts (.fieldLink RX4 15 "BarometerClub$Line" "length" "I") (List.mem_of_getElem? (i := 1) rfl)) (fun _ h9 => h9) rfl dX4_add_8 ?_
    refine lv_bipush (v := (32 : Int32)) hx hb dX4_add_11 (by decide) ?_
    refine lv_icmp_ge (tgt := 36) hx hb dX4_add_13 (by decide) (fun c2 => ?_) (fun c2 => ?_)
    · have hF := oT c2 hF
      exact fin_v (u := (lL, lC)) hF hx hb hr hlocks hK hP hD hS (Nat.le_of_ble_eq_true rfl) (Nat.le_of_ble_eq_true rfl) dX4_add_36
    · have hF := oF c2 hF
      refine lv_aload_n hx hb dX4_add_16 rfl (lv_at hl 0 rfl) ?_
      refine va_get (D := D) (ci := 3) (v := .ref aLc) (C := RX4) (T := TX4) (N := 2) hx hb hts (fun _ h => List.mem_cons_of_mem _ (List.mem_append_left _ (List.mem_append_right _ h))) hown hK hP 0 rfl rfl 0 (by decide) (hts (.fieldLink RX4 11 "BarometerClub$Line" "characters" "[C") (List.mem_of_getElem? (i := 2) rfl)) (fun _ h9 => h9) rfl dX4_add_17 ?_
      refine lv_aload_n hx hb dX4_add_20 rfl (lv_at hl 0 rfl) ?_
      refine va_get (D := D) (ci := 3) (v := .int lL) (C := RX4) (T := TX4) (N := 2) hx hb hts (fun _ h => List.mem_cons_of_mem _ (List.mem_append_left _ (List.mem_append_right _ h))) hown hK hP 0 rfl rfl 1 (by decide) (hts (.fieldLink RX4 15 "BarometerClub$Line" "length" "I") (List.mem_of_getElem? (i := 1) rfl)) (fun _ h9 => h9) rfl dX4_add_21 ?_
      refine lv_iload_n hx hb dX4_add_24 rfl (lv_at hl 1 rfl) ?_
      obtain ⟨g3, hF⟩ := oG hF
      refine va_cast hx hb hK hP hD hS 1 4 rfl rfl (inB_in g3) dX4_add_25 (fun H locs hP hD hS => ?_)
      have hP : va_P D vwC7 [(aL, .inr (3, [.ref aLc, .int lL])), (aLc, .inl (K 4, 32, .inl (upd lC lL.toNatClampNeg (vp_nar .char p1))))] H := hP
      have hD : va_D A [(aL, .inr (3, [.ref aLc, .int lL])), (aLc, .inl (K 4, 32, .inl (upd lC lL.toNatClampNeg (vp_nar .char p1))))] := hD
      refine lv_aload_n hx hb dX4_add_26 rfl (lv_at hl 0 rfl) ?_
      refine lv_dup hx hb dX4_add_27 rfl ?_
      refine va_get (D := D) (ci := 3) (v := .int lL) (C := RX4) (T := TX4) (N := 2) hx hb hts (fun _ h => List.mem_cons_of_mem _ (List.mem_append_left _ (List.mem_append_right _ h))) hown hK hP 0 rfl rfl 1 (by decide) (hts (.fieldLink RX4 15 "BarometerClub$Line" "length" "I") (List.mem_of_getElem? (i := 1) rfl)) (fun _ h9 => h9) rfl dX4_add_28 ?_
      refine lv_iconst (v := (1 : Int32)) hx hb dX4_add_31 (by decide) ?_
      refine lv_iadd hx hb dX4_add_32 ?_
      refine va_put (D := D) (ci := 3) (v := .int (lL + (1 : Int32))) (ty := .int) (C := RX4) (T := TX4) (N := 2) hx hb hts (fun _ h => List.mem_cons_of_mem _ (List.mem_append_left _ (List.mem_append_right _ h))) tyX4 tyX4_ok nmX4 hown hK hP hD hS 0 rfl rfl 1 (by decide) (hts (.fieldLink RX4 15 "BarometerClub$Line" "length" "I") (List.mem_of_getElem? (i := 1) rfl)) (fun _ h9 => h9) rfl (by decide +kernel) rfl rfl (Nat.le_of_ble_eq_true rfl) dX4_add_33 (fun H locs hP hD hS => ?_)
      have hP : va_P D vwC7 [(aL, .inr (3, [.ref aLc, .int (lL + (1 : Int32))])), (aLc, .inl (K 4, 32, .inl (upd lC lL.toNatClampNeg (vp_nar .char p1))))] H := hP
      have hD : va_D A [(aL, .inr (3, [.ref aLc, .int (lL + (1 : Int32))])), (aLc, .inl (K 4, 32, .inl (upd lC lL.toNatClampNeg (vp_nar .char p1))))] := hD
      exact fin_v (u := (lL + (1 : Int32), upd lC lL.toNatClampNeg (vp_nar .char p1))) hF hx hb hr hlocks hK hP hD hS (Nat.le_of_ble_eq_true rfl) (Nat.le_of_ble_eq_true rfl) dX4_add_36
abbrev RM_X4_addNumber : Room := { frames := 1, cells := 0, slots := 0, locals := 21 }
abbrev MC_X4_addNumber : Nat := 0
abbrev MS_X4_addNumber : Nat := 0
abbrev wf_X4_addNumber (K : Nat → ClassId) (aL : Nat) (aLc : Nat)  (v : Int32 × (Nat → Int32)) : va_W := [(aL, .inr (3, [.ref aLc, .int v.1])), (aLc, .inl (K 4, 32, .inl v.2))]
set_option maxHeartbeats 4000000 in
set_option maxRecDepth 100000 in
theorem c_X4_addNumber (l : Launch) (D : va_G) (K : Nat → ClassId) (aL : Nat) (aLc : Nat) (lL : Int32) (lC : Nat → Int32) (p1 : Int32) (v : Int32 × (Nat → Int32)) (hF : f_X4_addNumber lL lC p1 = some v) (sz : Nat) :
    (Met l yX4_addNumber wsX4_addNumber RM_X4_addNumber (PC D (TY K) [(aL, .inr (3, [.ref aLc, .int lL])), (aLc, .inl (K 4, 32, .inl lC))] [.ref aL, .int p1] sz) (QV D (TY K) (wf_X4_addNumber K aL aLc) v (va_A [(aL, .inr (3, [.ref aLc, .int lL])), (aLc, .inl (K 4, 32, .inl lC))] sz)) MC_X4_addNumber MS_X4_addNumber (va_A [(aL, .inr (3, [.ref aLc, .int lL])), (aLc, .inl (K 4, 32, .inl lC))] sz)) := by
  refine pro (Qf := fun A => QV D (TY K) (wf_X4_addNumber K aL aLc) v A) (cc := cX4_addNumber) (maxL := 4) (ret := none) (by decide +kernel) rfl (Nat.le_of_ble_eq_true rfl) ?_
  intro p e s m args below meth c hx hb hr hts hown hlocks hml hini hK A hA hE hP hD hS ls hl
  have hown : s.vm.findClass RX4 = some m.cls := hown
  have hl : lv_has ls 4 [(0, .ref aL), (1, .int p1)] := hl
  have loop_29 : ∀ (y29_1 : Int32) (n : Nat) (y29_2 : Int32) (lL_29 : Int32) (lC_29 : Nat → Int32), f_X4_addNumber_L29 y29_1 n y29_2 lL_29 lC_29 = some v → ∀ (H : Heap) (locs : List Loc), va_P D vwC7 [(aL, .inr (3, [.ref aLc, .int lL_29])), (aLc, .inl (K 4, 32, .inl lC_29))] H → va_D A [(aL, .inr (3, [.ref aLc, .int lL_29])), (aLc, .inl (K 4, 32, .inl lC_29))] → va_S A s.heap H locs → ∀ ls : Array Slot, lv_has ls 4 [(0, .ref aL), (1, .int y29_1), (2, .int y29_2)] → W p l e RM_X4_addNumber s m args below meth c H locs 0 0 (MQ below (QV D (TY K) (wf_X4_addNumber K aL aLc) v A) args s MC_X4_addNumber MS_X4_addNumber A) (F0 m 29 ls []) := by
    intro y29_1 n
    induction n with
    | zero =>
      intro y29_2 lL_29 lC_29 hF
      exact nomatch hF
    | succ n ih =>
      intro y29_2 lL_29 lC_29 hF H locs hP hD hS ls hl
      rw [f_X4_addNumber_L29.eq_2] at hF
      refine lv_iload_n hx hb dX4_addNumber_29 rfl (lv_at hl 2 rfl) ?_
      refine lv_if_le (tgt := 54) hx hb dX4_addNumber_30 (by decide) (fun c2 => ?_) (fun c2 => ?_)
      · have hF := oT c2 hF
        exact fin_v (u := (lL_29, lC_29)) hF hx hb hr hlocks hK hP hD hS (Nat.le_of_ble_eq_true rfl) (Nat.le_of_ble_eq_true rfl) dX4_addNumber_54
      · have hF := oF c2 hF
        refine lv_aload_n hx hb dX4_addNumber_33 rfl (lv_at hl 0 rfl) ?_
        refine lv_iload_n hx hb dX4_addNumber_34 rfl (lv_at hl 1 rfl) ?_
        refine lv_iload_n hx hb dX4_addNumber_35 rfl (lv_at hl 2 rfl) ?_
        obtain ⟨g3, hF⟩ := oG hF
        refine lv_idiv hx hb dX4_addNumber_36 (nz_ne g3) ?_
        refine lv_bipush (v := (10 : Int32)) hx hb dX4_addNumber_37 (by decide) ?_
        refine lv_irem hx hb dX4_addNumber_39 (by decide) ?_
        obtain ⟨v4, hv4, hF⟩ := oB hF
        refine call_i (wr := [(aL, .inr (3, [.ref aLc, .int lL_29])), (aLc, .inl (K 4, 32, .inl lC_29))]) (wn := [(aL, .inr (3, [.ref aLc, .int lL_29])), (aLc, .inl (K 4, 32, .inl lC_29))]) (va_runS (As := [.int ((y29_1 / y29_2) - (y29_1 / y29_2) / (10 : Int32) * (10 : Int32))]) (rest := [.ref aL]) ⟨hx, hb, hml, hown, hts⟩ (c_X4_digit l D K ((y29_1 / y29_2) - (y29_1 / y29_2) / (10 : Int32) * (10 : Int32)) v4 hv4 H.size) (va_cwS 1 hts gX4_addNumber_X4_digit rfl rfl rfl (by decide +kernel) ⟨(Nat.le_of_ble_eq_true rfl), (Nat.le_of_ble_eq_true rfl)⟩) (prS hE hK hP hD hS hA [] rfl rfl) rfl rfl hl.1 rfl (lv_room (Nat.le_of_ble_eq_true rfl)) dX4_addNumber_40 ⟨(Nat.le_of_ble_eq_true rfl), (Nat.le_of_ble_eq_true rfl)⟩) hP hD hS hA [] [0, 1] [0, 1] rfl rfl rfl (by decide) rfl rfl (fun H locs hP hD hS => ?_)
        obtain ⟨v5, hv5, hF⟩ := oB hF
        refine call_v (wr := []) (wn := [(aL, .inr (3, [.ref aLc, .int v5.1])), (aLc, .inl (K 4, 32, .inl v5.2))]) (va_runV (As := [.int v4.1]) (rest := []) ⟨hx, hb, hml, hown, hts⟩ (c_X4_add l D K aL aLc lL_29 lC_29 v4.1 v5 hv5 H.size) (cwV 1 hts gX4_addNumber_X4_add rfl rfl rfl (by decide +kernel) ⟨(Nat.le_of_ble_eq_true rfl), (Nat.le_of_ble_eq_true rfl)⟩) (prV hE hK hP hD hS hA [0, 1] rfl rfl 3 0 rfl rfl rfl) rfl rfl hl.1 rfl (lv_room (Nat.le_of_ble_eq_true rfl)) dX4_addNumber_43 ⟨(Nat.le_of_ble_eq_true rfl), (Nat.le_of_ble_eq_true rfl)⟩) hP hD hS hA [0, 1] [] [0, 1] rfl rfl rfl (by decide) rfl rfl (fun H locs hP hD hS => ?_)
        refine lv_iload_n hx hb dX4_addNumber_46 rfl (lv_at hl 2 rfl) ?_
        refine lv_bipush (v := (10 : Int32)) hx hb dX4_addNumber_47 (by decide) ?_
        refine lv_idiv hx hb dX4_addNumber_49 (by decide) ?_
        refine lv_istore_n (lv' := [(2, .int (y29_2 / (10 : Int32))), (0, .ref aL), (1, .int y29_1)]) hx hb dX4_addNumber_50 rfl hl (by decide) rfl (fun ls hl => ?_)
        refine lv_goto (tgt := 29) hx hb dX4_addNumber_51 (by decide) ?_
        exact ih (y29_2 / (10 : Int32)) v5.1 v5.2 hF _ _ hP hD hS _ (lv_sub hl [1, 2, 0] rfl)
  have loop_4 : ∀ (y4_1 : Int32) (lL_4 : Int32) (lC_4 : Nat → Int32) (n : Nat) (y4_2 : Int32) (y4_3 : Int32), f_X4_addNumber_L4 y4_1 lL_4 lC_4 n y4_2 y4_3 = some v → ∀ (H : Heap) (locs : List Loc), va_P D vwC7 [(aL, .inr (3, [.ref aLc, .int lL_4])), (aLc, .inl (K 4, 32, .inl lC_4))] H → va_D A [(aL, .inr (3, [.ref aLc, .int lL_4])), (aLc, .inl (K 4, 32, .inl lC_4))] → va_S A s.heap H locs → ∀ ls : Array Slot, lv_has ls 4 [(0, .ref aL), (1, .int y4_1), (2, .int y4_2), (3, .int y4_3)] → W p l e RM_X4_addNumber s m args below meth c H locs 0 0 (MQ below (QV D (TY K) (wf_X4_addNumber K aL aLc) v A) args s MC_X4_addNumber MS_X4_addNumber A) (F0 m 4 ls []) := by
    intro y4_1 lL_4 lC_4 n
    induction n with
    | zero =>
      intro y4_2 y4_3 hF
      exact nomatch hF
    | succ n ih =>
      intro y4_2 y4_3 hF H locs hP hD hS ls hl
      rw [f_X4_addNumber_L4.eq_2] at hF
      refine lv_iload_n hx hb dX4_addNumber_4 rfl (lv_at hl 3 rfl) ?_
      refine lv_bipush (v := (10 : Int32)) hx hb dX4_addNumber_5 (by decide) ?_
      refine lv_icmp_ge (tgt := 29) hx hb dX4_addNumber_7 (by decide) (fun c1 => ?_) (fun c1 => ?_)
      · have hF := oT c1 hF
        exact loop_29 y4_1 FU y4_2 lL_4 lC_4 hF _ _ hP hD hS _ (lv_sub hl [0, 1, 2] rfl)
      · have hF := oF c1 hF
        refine lv_iload_n hx hb dX4_addNumber_10 rfl (lv_at hl 2 rfl) ?_
        refine lv_iload_n hx hb dX4_addNumber_11 rfl (lv_at hl 1 rfl) ?_
        refine lv_bipush (v := (10 : Int32)) hx hb dX4_addNumber_12 (by decide) ?_
        refine lv_idiv hx hb dX4_addNumber_14 (by decide) ?_
        refine lv_icmp_gt (tgt := 29) hx hb dX4_addNumber_15 (by decide) (fun c6 => ?_) (fun c6 => ?_)
        · have hF := oT c6 hF
          exact loop_29 y4_1 FU y4_2 lL_4 lC_4 hF _ _ hP hD hS _ (lv_sub hl [0, 1, 2] rfl)
        · have hF := oF c6 hF
          refine lv_iload_n hx hb dX4_addNumber_18 rfl (lv_at hl 2 rfl) ?_
          refine lv_bipush (v := (10 : Int32)) hx hb dX4_addNumber_19 (by decide) ?_
          refine lv_imul hx hb dX4_addNumber_21 ?_
          refine lv_istore_n (lv' := [(2, .int (y4_2 * (10 : Int32))), (0, .ref aL), (1, .int y4_1), (3, .int y4_3)]) hx hb dX4_addNumber_22 rfl hl (by decide) rfl (fun ls hl => ?_)
          refine lv_iinc (v := y4_3 + (1 : Int32)) (lv' := [(3, .int (y4_3 + (1 : Int32))), (2, .int (y4_2 * (10 : Int32))), (0, .ref aL), (1, .int y4_1)]) hx hb dX4_addNumber_23 hl (k := 3) rfl (by first | rfl | decide) (by decide) rfl (fun ls hl => ?_)
          refine lv_goto (tgt := 4) hx hb dX4_addNumber_26 (by decide) ?_
          exact ih (y4_2 * (10 : Int32)) (y4_3 + (1 : Int32)) hF _ _ hP hD hS _ (lv_sub hl [2, 3, 1, 0] rfl)
  rw [f_X4_addNumber] at hF
  refine lv_iconst (v := (1 : Int32)) hx hb dX4_addNumber_0 (by decide) ?_
  refine lv_istore_n (lv' := [(2, .int (1 : Int32)), (0, .ref aL), (1, .int p1)]) hx hb dX4_addNumber_1 rfl hl (by decide) rfl (fun ls hl => ?_)
  refine lv_iconst (v := (1 : Int32)) hx hb dX4_addNumber_2 (by decide) ?_
  refine lv_istore_n (lv' := [(3, .int (1 : Int32)), (2, .int (1 : Int32)), (0, .ref aL), (1, .int p1)]) hx hb dX4_addNumber_3 rfl hl (by decide) rfl (fun ls hl => ?_)
  exact loop_4 p1 lL lC FU (1 : Int32) (1 : Int32) hF _ _ hP hD hS _ (lv_sub hl [2, 3, 1, 0] rfl)
