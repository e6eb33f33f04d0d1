abbrev RM_X8_faultPosition : Room := { frames := 0, cells := 0, slots := 0, locals := 0 }
abbrev MC_X8_faultPosition : Nat := 0
abbrev MS_X8_faultPosition : Nat := 0
abbrev wf_X8_faultPosition (K : Nat → ClassId) (aM : Nat) (aMn : Nat) (aMt : Nat) (aMk : Nat) (aMs : Nat) (aMl : Nat) (aMx : Nat) (aMd : Nat) (mU : Int32) (mB : Int32) (mI : Int32) (mH : Int32) (mQ : Int32) (mW : Int32) (mF : Int32) (mR : Int32) (mD : Int32) (mJ : Int32) (mA : Int32) (v : Int32 × Int32) : va_W := [(aM, .inr (6, [.ref aMn, .ref aMt, .ref aMk, .int mU, .ref aMs, .int mB, .ref aMl, .int mI, .ref aMx, .int mH, .int mQ, .int mW, .ref aMd, .int mF, .int mR, .int mD, .int mJ, .int mA, .int v.2]))]
set_option maxHeartbeats 4000000 in
set_option maxRecDepth 100000 in
theorem c_X8_faultPosition (l : Launch) (D : va_G) (K : Nat → ClassId) (aM : Nat) (aMn : Nat) (aMt : Nat) (aMk : Nat) (aMs : Nat) (aMl : Nat) (aMx : Nat) (aMd : Nat) (mU : Int32) (mB : Int32) (mI : Int32) (mH : Int32) (mQ : Int32) (mW : Int32) (mF : Int32) (mR : Int32) (mD : Int32) (mJ : Int32) (mA : Int32) (mT : Int32)  (v : Int32 × Int32) (hF : f_X8_faultPosition mF mT = some v) (sz : Nat) :
    (Met l yX8_faultPosition wsX8_faultPosition RM_X8_faultPosition (PC D (TY K) [(aM, .inr (6, [.ref aMn, .ref aMt, .ref aMk, .int mU, .ref aMs, .int mB, .ref aMl, .int mI, .ref aMx, .int mH, .int mQ, .int mW, .ref aMd, .int mF, .int mR, .int mD, .int mJ, .int mA, .int mT]))] [.ref aM] sz) (QI D (TY K) (wf_X8_faultPosition K aM aMn aMt aMk aMs aMl aMx aMd mU mB mI mH mQ mW mF mR mD mJ mA) v (va_A [(aM, .inr (6, [.ref aMn, .ref aMt, .ref aMk, .int mU, .ref aMs, .int mB, .ref aMl, .int mI, .ref aMx, .int mH, .int mQ, .int mW, .ref aMd, .int mF, .int mR, .int mD, .int mJ, .int mA, .int mT]))] sz)) MC_X8_faultPosition MS_X8_faultPosition (va_A [(aM, .inr (6, [.ref aMn, .ref aMt, .ref aMk, .int mU, .ref aMs, .int mB, .ref aMl, .int mI, .ref aMx, .int mH, .int mQ, .int mW, .ref aMd, .int mF, .int mR, .int mD, .int mJ, .int mA, .int mT]))] sz)) := by
  refine pro (Qf := fun A => QI D (TY K) (wf_X8_faultPosition K aM aMn aMt aMk aMs aMl aMx aMd mU mB mI mH mQ mW mF mR mD mJ mA) v A) (cc := cX8_faultPosition) (maxL := 1) (ret := (some .int)) (by decide +kernel) rfl (Nat.le_of_ble_eq_true rfl) ?_
  intro p e s m args below meth c hx hb hr hts hown hlocks hml hini hK A hA hE hP hD hS ls hl
  have hown : s.vm.findClass RX8 = some m.cls := hown
  have hl : lv_has ls 1 [(0, .ref aM)] := hl
  rw [f_X8_faultPosition] at hF
  refine lv_aload_n hx hb dX8_faultPosition_0 rfl (lv_at hl 0 rfl) ?_
  refine lv_iconst (v := (0 : Int32)) hx hb dX8_faultPosition_1 (by decide) ?_
  refine va_put (D := D) (ci := 6) (v := .int (0 : Int32)) (ty := .int) (C := RX8) (T := TX8) (N := 19) hx hb hts (fun _ h => List.mem_cons_of_mem _ (List.mem_append_right _ h)) tyX8 tyX8_ok nmX8 hown hK hP hD hS 0 rfl rfl 18 (by decide) (hts (.fieldLink RX8 36 "BarometerClubModel" "thrown" "I") (List.mem_of_getElem? (i := 1) rfl)) (fun _ h9 => h9) rfl (by decide +kernel) rfl rfl (Nat.le_of_ble_eq_true rfl) dX8_faultPosition_2 (fun H locs hP hD hS => ?_)
  have hP : va_P D vwC7 [(aM, .inr (6, [.ref aMn, .ref aMt, .ref aMk, .int mU, .ref aMs, .int mB, .ref aMl, .int mI, .ref aMx, .int mH, .int mQ, .int mW, .ref aMd, .int mF, .int mR, .int mD, .int mJ, .int mA, .int (0 : Int32)]))] H := hP
  have hD : va_D A [(aM, .inr (6, [.ref aMn, .ref aMt, .ref aMk, .int mU, .ref aMs, .int mB, .ref aMl, .int mI, .ref aMx, .int mH, .int mQ, .int mW, .ref aMd, .int mF, .int mR, .int mD, .int mJ, .int mA, .int (0 : Int32)]))] := hD
  refine lv_aload_n hx hb dX8_faultPosition_5 rfl (lv_at hl 0 rfl) ?_
  refine va_get (D := D) (ci := 6) (v := .int mF) (C := RX8) (T := TX8) (N := 19) hx hb hts (fun _ h => List.mem_cons_of_mem _ (List.mem_append_right _ h)) hown hK hP 0 rfl rfl 13 (by decide) (hts (.fieldLink RX8 32 "BarometerClubModel" "fault" "I") (List.mem_of_getElem? (i := 2) rfl)) (fun _ h9 => h9) rfl dX8_faultPosition_6 ?_
  exact fin_i (u := (mF, (0 : Int32))) hF hx hb hr hlocks hK hP hD hS (Nat.le_of_ble_eq_true rfl) (Nat.le_of_ble_eq_true rfl) dX8_faultPosition_9
abbrev RM_X8_reason : Room := { frames := 1, cells := 0, slots := 0, locals := 22 }
abbrev MC_X8_reason : Nat := 0
abbrev MS_X8_reason : Nat := 0
abbrev wf_X8_reason (K : Nat → ClassId) (aM : Nat) (aMn : Nat) (aMt : Nat) (aMk : Nat) (aMs : Nat) (aMl : Nat) (aMx : Nat) (aMd : Nat) (mU : Int32) (mB : Int32) (mI : Int32) (mH : Int32) (mQ : Int32) (mW : Int32) (mF : Int32) (mR : Int32) (mD : Int32) (mJ : Int32) (mA : Int32) (v : Int32 × Int32) : va_W := [(aM, .inr (6, [.ref aMn, .ref aMt, .ref aMk, .int mU, .ref aMs, .int mB, .ref aMl, .int mI, .ref aMx, .int mH, .int mQ, .int mW, .ref aMd, .int mF, .int mR, .int mD, .int mJ, .int mA, .int v.2]))]
set_option maxHeartbeats 4000000 in
set_option maxRecDepth 100000 in
theorem c_X8_reason (l : Launch) (D : va_G) (K : Nat → ClassId) (aM : Nat) (aMn : Nat) (aMt : Nat) (aMk : Nat) (aMs : Nat) (aMl : Nat) (aMx : Nat) (aMd : Nat) (mU : Int32) (mB : Int32) (mI : Int32) (mH : Int32) (mQ : Int32) (mW : Int32) (mF : Int32) (mR : Int32) (mD : Int32) (mJ : Int32) (mA : Int32) (mT : Int32) (p1 : Int32) (v : Int32 × Int32) (hF : f_X8_reason mR mD mJ mT p1 = some v) (sz : Nat) :
    (Met l yX8_reason wsX8_reason RM_X8_reason (PC D (TY K) [(aM, .inr (6, [.ref aMn, .ref aMt, .ref aMk, .int mU, .ref aMs, .int mB, .ref aMl, .int mI, .ref aMx, .int mH, .int mQ, .int mW, .ref aMd, .int mF, .int mR, .int mD, .int mJ, .int mA, .int mT]))] [.ref aM, .int p1] sz) (QI D (TY K) (wf_X8_reason K aM aMn aMt aMk aMs aMl aMx aMd mU mB mI mH mQ mW mF mR mD mJ mA) v (va_A [(aM, .inr (6, [.ref aMn, .ref aMt, .ref aMk, .int mU, .ref aMs, .int mB, .ref aMl, .int mI, .ref aMx, .int mH, .int mQ, .int mW, .ref aMd, .int mF, .int mR, .int mD, .int mJ, .int mA, .int mT]))] sz)) MC_X8_reason MS_X8_reason (va_A [(aM, .inr (6, [.ref aMn, .ref aMt, .ref aMk, .int mU, .ref aMs, .int mB, .ref aMl, .int mI, .ref aMx, .int mH, .int mQ, .int mW, .ref aMd, .int mF, .int mR, .int mD, .int mJ, .int mA, .int mT]))] sz)) := by
  refine pro (Qf := fun A => QI D (TY K) (wf_X8_reason K aM aMn aMt aMk aMs aMl aMx aMd mU mB mI mH mQ mW mF mR mD mJ mA) v A) (cc := cX8_reason) (maxL := 2) (ret := (some .int)) (by decide +kernel) rfl (Nat.le_of_ble_eq_true rfl) ?_
  intro p e s m args below meth c hx hb hr hts hown hlocks hml hini hK A hA hE hP hD hS ls hl
  have hown : s.vm.findClass RX8 = some m.cls := hown
  have hl : lv_has ls 2 [(0, .ref aM), (1, .int p1)] := hl
  rw [f_X8_reason] at hF
  refine lv_aload_n hx hb dX8_reason_0 rfl (lv_at hl 0 rfl) ?_
  refine lv_iconst (v := (0 : Int32)) hx hb dX8_reason_1 (by decide) ?_
  refine va_put (D := D) (ci := 6) (v := .int (0 : Int32)) (ty := .int) (C := RX8) (T := TX8) (N := 19) hx hb hts (fun _ h => List.mem_cons_of_mem _ (List.mem_append_right _ h)) tyX8 tyX8_ok nmX8 hown hK hP hD hS 0 rfl rfl 18 (by decide) (hts (.fieldLink RX8 36 "BarometerClubModel" "thrown" "I") (List.mem_of_getElem? (i := 1) rfl)) (fun _ h9 => h9) rfl (by decide +kernel) rfl rfl (Nat.le_of_ble_eq_true rfl) dX8_reason_2 (fun H locs hP hD hS => ?_)
  have hP : va_P D vwC7 [(aM, .inr (6, [.ref aMn, .ref aMt, .ref aMk, .int mU, .ref aMs, .int mB, .ref aMl, .int mI, .ref aMx, .int mH, .int mQ, .int mW, .ref aMd, .int mF, .int mR, .int mD, .int mJ, .int mA, .int (0 : Int32)]))] H := hP
  have hD : va_D A [(aM, .inr (6, [.ref aMn, .ref aMt, .ref aMk, .int mU, .ref aMs, .int mB, .ref aMl, .int mI, .ref aMx, .int mH, .int mQ, .int mW, .ref aMd, .int mF, .int mR, .int mD, .int mJ, .int mA, .int (0 : Int32)]))] := hD
  refine lv_iload_n hx hb dX8_reason_5 rfl (lv_at hl 1 rfl) ?_
  refine lv_iconst (v := (0 : Int32)) hx hb dX8_reason_6 (by decide) ?_
  refine lv_iconst (v := (2 : Int32)) hx hb dX8_reason_7 (by decide) ?_
  obtain ⟨v1, hv1, hF⟩ := oB hF
  refine call_i (wr := [(aM, .inr (6, [.ref aMn, .ref aMt, .ref aMk, .int mU, .ref aMs, .int mB, .ref aMl, .int mI, .ref aMx, .int mH, .int mQ, .int mW, .ref aMd, .int mF, .int mR, .int mD, .int mJ, .int mA, .int (0 : Int32)]))]) (wn := [(aM, .inr (6, [.ref aMn, .ref aMt, .ref aMk, .int mU, .ref aMs, .int mB, .ref aMl, .int mI, .ref aMx, .int mH, .int mQ, .int mW, .ref aMd, .int mF, .int mR, .int mD, .int mJ, .int mA, .int (0 : Int32)]))]) (va_runS (As := [.int p1, .int (0 : Int32), .int (2 : Int32)]) (rest := []) ⟨hx, hb, hml, hown, hts⟩ (c_X8_in l D K p1 (0 : Int32) (2 : Int32) v1 hv1 H.size) (va_cwS 3 hts gX8_reason_X8_in rfl rfl rfl (by decide +kernel) ⟨(Nat.le_of_ble_eq_true rfl), (Nat.le_of_ble_eq_true rfl)⟩) (prS hE hK hP hD hS hA [] rfl rfl) rfl rfl hl.1 rfl (lv_room (Nat.le_of_ble_eq_true rfl)) dX8_reason_8 ⟨(Nat.le_of_ble_eq_true rfl), (Nat.le_of_ble_eq_true rfl)⟩) hP hD hS hA [] [0] [0] rfl rfl rfl (by decide) rfl rfl (fun H locs hP hD hS => ?_)
  refine lv_if_ne (tgt := 20) hx hb dX8_reason_11 (by decide) (fun c2 => ?_) (fun c2 => ?_)
  · have hF := oF c2 hF
    refine lv_aload_n hx hb dX8_reason_20 rfl (lv_at hl 0 rfl) ?_
    refine va_get (D := D) (ci := 6) (v := .int mR) (C := RX8) (T := TX8) (N := 19) hx hb hts (fun _ h => List.mem_cons_of_mem _ (List.mem_append_right _ h)) hown hK hP 0 rfl rfl 14 (by decide) (hts (.fieldLink RX8 45 "BarometerClubModel" "reason" "I") (List.mem_of_getElem? (i := 2) rfl)) (fun _ h9 => h9) rfl dX8_reason_21 ?_
    refine lv_if_ne (tgt := 33) hx hb dX8_reason_24 (by decide) (fun c3 => ?_) (fun c3 => ?_)
    · have hF := oF c3 hF
      refine lv_iload_n hx hb dX8_reason_33 rfl (lv_at hl 1 rfl) ?_
      refine lv_if_ne (tgt := 44) hx hb dX8_reason_34 (by decide) (fun c4 => ?_) (fun c4 => ?_)
      · have hF := oF c4 hF
        refine lv_iload_n hx hb dX8_reason_44 rfl (lv_at hl 1 rfl) ?_
        refine lv_iconst (v := (1 : Int32)) hx hb dX8_reason_45 (by decide) ?_
        refine lv_icmp_ne (tgt := 56) hx hb dX8_reason_46 (by decide) (fun c5 => ?_) (fun c5 => ?_)
        · have hF := oF c5 hF
          refine lv_aload_n hx hb dX8_reason_56 rfl (lv_at hl 0 rfl) ?_
          refine va_get (D := D) (ci := 6) (v := .int mJ) (C := RX8) (T := TX8) (N := 19) hx hb hts (fun _ h => List.mem_cons_of_mem _ (List.mem_append_right _ h)) hown hK hP 0 rfl rfl 16 (by decide) (hts (.fieldLink RX8 51 "BarometerClubModel" "index" "I") (List.mem_of_getElem? (i := 4) rfl)) (fun _ h9 => h9) rfl dX8_reason_57 ?_
          exact fin_i (u := (mJ, (0 : Int32))) hF hx hb hr hlocks hK hP hD hS (Nat.le_of_ble_eq_true rfl) (Nat.le_of_ble_eq_true rfl) dX8_reason_60
        · have hF := oT c5 hF
          refine lv_aload_n hx hb dX8_reason_49 rfl (lv_at hl 0 rfl) ?_
          refine va_get (D := D) (ci := 6) (v := .int mD) (C := RX8) (T := TX8) (N := 19) hx hb hts (fun _ h => List.mem_cons_of_mem _ (List.mem_append_right _ h)) hown hK hP 0 rfl rfl 15 (by decide) (hts (.fieldLink RX8 48 "BarometerClubModel" "detail" "I") (List.mem_of_getElem? (i := 3) rfl)) (fun _ h9 => h9) rfl dX8_reason_50 ?_
          refine lv_goto (tgt := 60) hx hb dX8_reason_53 (by decide) ?_
          exact fin_i (u := (mD, (0 : Int32))) hF hx hb hr hlocks hK hP hD hS (Nat.le_of_ble_eq_true rfl) (Nat.le_of_ble_eq_true rfl) dX8_reason_60
      · have hF := oT c4 hF
        refine lv_aload_n hx hb dX8_reason_37 rfl (lv_at hl 0 rfl) ?_
        refine va_get (D := D) (ci := 6) (v := .int mR) (C := RX8) (T := TX8) (N := 19) hx hb hts (fun _ h => List.mem_cons_of_mem _ (List.mem_append_right _ h)) hown hK hP 0 rfl rfl 14 (by decide) (hts (.fieldLink RX8 45 "BarometerClubModel" "reason" "I") (List.mem_of_getElem? (i := 2) rfl)) (fun _ h9 => h9) rfl dX8_reason_38 ?_
        refine lv_goto (tgt := 60) hx hb dX8_reason_41 (by decide) ?_
        exact fin_i (u := (mR, (0 : Int32))) hF hx hb hr hlocks hK hP hD hS (Nat.le_of_ble_eq_true rfl) (Nat.le_of_ble_eq_true rfl) dX8_reason_60
    · have hF := oT c3 hF
      refine lv_aload_n hx hb dX8_reason_27 rfl (lv_at hl 0 rfl) ?_
      refine lv_iconst (v := (2 : Int32)) hx hb dX8_reason_28 (by decide) ?_
      obtain ⟨v6, hv6, hF⟩ := oB hF
      refine call_i (wr := []) (wn := [(aM, .inr (6, [.ref aMn, .ref aMt, .ref aMk, .int mU, .ref aMs, .int mB, .ref aMl, .int mI, .ref aMx, .int mH, .int mQ, .int mW, .ref aMd, .int mF, .int mR, .int mD, .int mJ, .int mA, .int v6.2]))]) (va_runV (As := [.int (2 : Int32)]) (rest := []) ⟨hx, hb, hml, hown, hts⟩ (c_X8_raises l D K aM aMn aMt aMk aMs aMl aMx aMd mU mB mI mH mQ mW mF mR mD mJ mA (0 : Int32) (2 : Int32) v6 hv6 H.size) (cwV 1 hts gX8_reason_X8_raises rfl rfl rfl (by decide +kernel) ⟨(Nat.le_of_ble_eq_true rfl), (Nat.le_of_ble_eq_true rfl)⟩) (prV hE hK hP hD hS hA [0] rfl rfl 6 0 rfl rfl rfl) rfl rfl hl.1 rfl (lv_room (Nat.le_of_ble_eq_true rfl)) dX8_reason_29 ⟨(Nat.le_of_ble_eq_true rfl), (Nat.le_of_ble_eq_true rfl)⟩) hP hD hS hA [0] [] [0] rfl rfl rfl (by decide) rfl rfl (fun H locs hP hD hS => ?_)
      exact fin_i (u := (v6.1, v6.2)) hF hx hb hr hlocks hK hP hD hS (Nat.le_of_ble_eq_true rfl) (Nat.le_of_ble_eq_true rfl) dX8_reason_32
  · have hF := oT c2 hF
    refine lv_aload_n hx hb dX8_reason_14 rfl (lv_at hl 0 rfl) ?_
    refine lv_iconst (v := (1 : Int32)) hx hb dX8_reason_15 (by decide) ?_
    obtain ⟨v7, hv7, hF⟩ := oB hF
    refine call_i (wr := []) (wn := [(aM, .inr (6, [.ref aMn, .ref aMt, .ref aMk, .int mU, .ref aMs, .int mB, .ref aMl, .int mI, .ref aMx, .int mH, .int mQ, .int mW, .ref aMd, .int mF, .int mR, .int mD, .int mJ, .int mA, .int v7.2]))]) (va_runV (As := [.int (1 : Int32)]) (rest := []) ⟨hx, hb, hml, hown, hts⟩ (c_X8_raises l D K aM aMn aMt aMk aMs aMl aMx aMd mU mB mI mH mQ mW mF mR mD mJ mA (0 : Int32) (1 : Int32) v7 hv7 H.size) (cwV 1 hts gX8_reason_X8_raises rfl rfl rfl (by decide +kernel) ⟨(Nat.le_of_ble_eq_true rfl), (Nat.le_of_ble_eq_true rfl)⟩) (prV hE hK hP hD hS hA [0] rfl rfl 6 0 rfl rfl rfl) rfl rfl hl.1 rfl (lv_room (Nat.le_of_ble_eq_true rfl)) dX8_reason_16 ⟨(Nat.le_of_ble_eq_true rfl), (Nat.le_of_ble_eq_true rfl)⟩) hP hD hS hA [0] [] [0] rfl rfl rfl (by decide) rfl rfl (fun H locs hP hD hS => ?_)
    exact fin_i (u := (v7.1, v7.2)) hF hx hb hr hlocks hK hP hD hS (Nat.le_of_ble_eq_true rfl) (Nat.le_of_ble_eq_true rfl) dX8_reason_19
abbrev RM_X8_signs : Room := { frames := 0, cells := 0, slots := 0, locals := 0 }
abbrev MC_X8_signs : Nat := 0
abbrev MS_X8_signs : Nat := 0
abbrev wf_X8_signs (K : Nat → ClassId) (aM : Nat) (aMn : Nat) (aMt : Nat) (aMk : Nat) (aMs : Nat) (aMl : Nat) (aMx : Nat) (aMd : Nat) (mU : Int32) (mB : Int32) (mH : Int32) (mQ : Int32) (mW : Int32) (mF : Int32) (mR : Int32) (mD : Int32) (mJ : Int32) (mA : Int32) (mT : Int32) (v : Int32 × (Nat → Int32)) : va_W := [(aM, .inr (6, [.ref aMn, .ref aMt, .ref aMk, .int mU, .ref aMs, .int mB, .ref aMl, .int v.1, .ref aMx, .int mH, .int mQ, .int mW, .ref aMd, .int mF, .int mR, .int mD, .int mJ, .int mA, .int mT])), (aMl, .inl (K 10, 60, .inl v.2))]
set_option maxHeartbeats 4000000 in
set_option maxRecDepth 100000 in
theorem c_X8_signs (l : Launch) (D : va_G) (K : Nat → ClassId) (aM : Nat) (aMn : Nat) (aMt : Nat) (aMk : Nat) (aMs : Nat) (aMl : Nat) (aMx : Nat) (aMd : Nat) (mU : Int32) (mB : Int32) (mI : Int32) (mH : Int32) (mQ : Int32) (mW : Int32) (mF : Int32) (mR : Int32) (mD : Int32) (mJ : Int32) (mA : Int32) (mT : Int32) (nL : Nat → Int32) (p1 : Int32) (v : Int32 × (Nat → Int32)) (hF : f_X8_signs mI nL p1 = some v) (sz : Nat) :
    (Met l yX8_signs wsX8_signs RM_X8_signs (PC D (TY K) [(aM, .inr (6, [.ref aMn, .ref aMt, .ref aMk, .int mU, .ref aMs, .int mB, .ref aMl, .int mI, .ref aMx, .int mH, .int mQ, .int mW, .ref aMd, .int mF, .int mR, .int mD, .int mJ, .int mA, .int mT])), (aMl, .inl (K 10, 60, .inl nL))] [.ref aM, .int p1] sz) (QV D (TY K) (wf_X8_signs K aM aMn aMt aMk aMs aMl aMx aMd mU mB mH mQ mW mF mR mD mJ mA mT) v (va_A [(aM, .inr (6, [.ref aMn, .ref aMt, .ref aMk, .int mU, .ref aMs, .int mB, .ref aMl, .int mI, .ref aMx, .int mH, .int mQ, .int mW, .ref aMd, .int mF, .int mR, .int mD, .int mJ, .int mA, .int mT])), (aMl, .inl (K 10, 60, .inl nL))] sz)) MC_X8_signs MS_X8_signs (va_A [(aM, .inr (6, [.ref aMn, .ref aMt, .ref aMk, .int mU, .ref aMs, .int mB, .ref aMl, .int mI, .ref aMx, .int mH, .int mQ, .int mW, .ref aMd, .int mF, .int mR, .int mD, .int mJ, .int mA, .int mT])), (aMl, .inl (K 10, 60, .inl nL))] sz)) := by
  refine pro (Qf := fun A => QV D (TY K) (wf_X8_signs K aM aMn aMt aMk aMs aMl aMx aMd mU mB mH mQ mW mF mR mD mJ mA mT) v A) (cc := cX8_signs) (maxL := 2) (ret := none) (by decide +kernel) rfl (Nat.le_of_ble_eq_true rfl) ?_
  intro p e s m args below meth c hx hb hr hts hown hlocks hml hini hK A hA hE hP hD hS ls hl
  have hown : s.vm.findClass RX8 = some m.cls := hown
  have hl : lv_has ls 2 [(0, .ref aM), (1, .int p1)] := hl
  rw [f_X8_signs] at hF
  refine lv_aload_n hx hb dX8_signs_0 rfl (lv_at hl 0 rfl) ?_
  refine va_get (D := D) (ci := 6) (v := .ref aMl) (C := RX8) (T := TX8) (N := 19) hx hb hts (fun _ h => List.mem_cons_of_mem _ (List.mem_append_left _ (List.mem_append_right _ h))) hown hK hP 0 rfl rfl 6 (by decide) (hts (.fieldLink RX8 22 "BarometerClubModel" "line" "[C") (List.mem_of_getElem? (i := 1) rfl)) (fun _ h9 => h9) rfl dX8_signs_1 ?_
  refine lv_aload_n hx hb dX8_signs_4 rfl (lv_at hl 0 rfl) ?_
  refine lv_dup hx hb dX8_signs_5 rfl ?_
  refine va_get (D := D) (ci := 6) (v := .int mI) (C := RX8) (T := TX8) (N := 19) hx hb hts (fun _ h => List.mem_cons_of_mem _ (List.mem_append_left _ (List.mem_append_right _ h))) hown hK hP 0 rfl rfl 7 (by decide) (hts (.fieldLink RX8 209 "BarometerClubModel" "lined" "I") (List.mem_of_getElem? (i := 2) rfl)) (fun _ h9 => h9) rfl dX8_signs_6 ?_
  refine lv_dup_x1 hx hb dX8_signs_9 rfl rfl ?_
  refine lv_iconst (v := (1 : Int32)) hx hb dX8_signs_10 (by decide) ?_
  refine lv_iadd hx hb dX8_signs_11 ?_
  refine va_put (D := D) (ci := 6) (v := .int (mI + (1 : Int32))) (ty := .int) (C := RX8) (T := TX8) (N := 19) hx hb hts (fun _ h => List.mem_cons_of_mem _ (List.mem_append_left _ (List.mem_append_right _ h))) tyX8 tyX8_ok nmX8 hown hK hP hD hS 0 rfl rfl 7 (by decide) (hts (.fieldLink RX8 209 "BarometerClubModel" "lined" "I") (List.mem_of_getElem? (i := 2) rfl)) (fun _ h9 => h9) rfl (by decide +kernel) rfl rfl (Nat.le_of_ble_eq_true rfl) dX8_signs_12 (fun H locs hP hD hS => ?_)
  have hP : va_P D vwC7 [(aM, .inr (6, [.ref aMn, .ref aMt, .ref aMk, .int mU, .ref aMs, .int mB, .ref aMl, .int (mI + (1 : Int32)), .ref aMx, .int mH, .int mQ, .int mW, .ref aMd, .int mF, .int mR, .int mD, .int mJ, .int mA, .int mT])), (aMl, .inl (K 10, 60, .inl nL))] H := hP
  have hD : va_D A [(aM, .inr (6, [.ref aMn, .ref aMt, .ref aMk, .int mU, .ref aMs, .int mB, .ref aMl, .int (mI + (1 : Int32)), .ref aMx, .int mH, .int mQ, .int mW, .ref aMd, .int mF, .int mR, .int mD, .int mJ, .int mA, .int mT])), (aMl, .inl (K 10, 60, .inl nL))] := hD
  refine lv_iload_n hx hb dX8_signs_15 rfl (lv_at hl 1 rfl) ?_
  obtain ⟨g1, hF⟩ := oG hF
  refine va_cast hx hb hK hP hD hS 1 10 rfl rfl (inB_in g1) dX8_signs_16 (fun H locs hP hD hS => ?_)
  have hP : va_P D vwC7 [(aM, .inr (6, [.ref aMn, .ref aMt, .ref aMk, .int mU, .ref aMs, .int mB, .ref aMl, .int (mI + (1 : Int32)), .ref aMx, .int mH, .int mQ, .int mW, .ref aMd, .int mF, .int mR, .int mD, .int mJ, .int mA, .int mT])), (aMl, .inl (K 10, 60, .inl (upd nL mI.toNatClampNeg (vp_nar .char p1))))] H := hP
  have hD : va_D A [(aM, .inr (6, [.ref aMn, .ref aMt, .ref aMk, .int mU, .ref aMs, .int mB, .ref aMl, .int (mI + (1 : Int32)), .ref aMx, .int mH, .int mQ, .int mW, .ref aMd, .int mF, .int mR, .int mD, .int mJ, .int mA, .int mT])), (aMl, .inl (K 10, 60, .inl (upd nL mI.toNatClampNeg (vp_nar .char p1))))] := hD
  exact fin_v (u := (mI + (1 : Int32), upd nL mI.toNatClampNeg (vp_nar .char p1))) hF hx hb hr hlocks hK hP hD hS (Nat.le_of_ble_eq_true rfl) (Nat.le_of_ble_eq_true rfl) dX8_signs_17
abbrev RMW (n : Nat) : Room := { frames := n + 1, cells := 0, slots := 0, locals := 32 * (n + 1) }
abbrev RM_X8_writes : Room := RMW 13
abbrev MC_X8_writes : Nat := 0
abbrev MS_X8_writes : Nat := 0
abbrev wf_X8_writes (K : Nat → ClassId) (aM : Nat) (aMn : Nat) (aMt : Nat) (aMk : Nat) (aMs : Nat) (aMl : Nat) (aMx : Nat) (aMd : Nat) (mU : Int32) (mB : Int32) (mH : Int32) (mQ : Int32) (mW : Int32) (mF : Int32) (mR : Int32) (mD : Int32) (mJ : Int32) (mA : Int32) (mT : Int32) (v : Int32 × (Nat → Int32)) : va_W := [(aM, .inr (6, [.ref aMn, .ref aMt, .ref aMk, .int mU, .ref aMs, .int mB, .ref aMl, .int v.1, .ref aMx, .int mH, .int mQ, .int mW, .ref aMd, .int mF, .int mR, .int mD, .int mJ, .int mA, .int mT])), (aMl, .inl (K 10, 60, .inl v.2))]
set_option maxHeartbeats 4000000 in
set_option maxRecDepth 100000 in
theorem c_X8_writes_R (l : Launch) (D : va_G) (K : Nat → ClassId) (aM : Nat) (aMn : Nat) (aMt : Nat) (aMk : Nat) (aMs : Nat) (aMl : Nat) (aMx : Nat) (aMd : Nat) : ∀ (n : Nat) (mU : Int32) (mB : Int32) (mI : Int32) (mH : Int32) (mQ : Int32) (mW : Int32) (mF : Int32) (mR : Int32) (mD : Int32) (mJ : Int32) (mA : Int32) (mT : Int32) (nL : Nat → Int32) (p1 : Int32) (v : Int32 × (Nat → Int32)) (_ : f_X8_writes_R n mI nL p1 = some v) (sz : Nat),
    Met l yX8_writes wsX8_writes (RMW n) (PC D (TY K) [(aM, .inr (6, [.ref aMn, .ref aMt, .ref aMk, .int mU, .ref aMs, .int mB, .ref aMl, .int mI, .ref aMx, .int mH, .int mQ, .int mW, .ref aMd, .int mF, .int mR, .int mD, .int mJ, .int mA, .int mT])), (aMl, .inl (K 10, 60, .inl nL))] [.ref aM, .int p1] sz) (QV D (TY K) (wf_X8_writes K aM aMn aMt aMk aMs aMl aMx aMd mU mB mH mQ mW mF mR mD mJ mA mT) v (va_A [(aM, .inr (6, [.ref aMn, .ref aMt, .ref aMk, .int mU, .ref aMs, .int mB, .ref aMl, .int mI, .ref aMx, .int mH, .int mQ, .int mW, .ref aMd, .int mF, .int mR, .int mD, .int mJ, .int mA, .int mT])), (aMl, .inl (K 10, 60, .inl nL))] sz)) 0 0 (va_A [(aM, .inr (6, [.ref aMn, .ref aMt, .ref aMk, .int mU, .ref aMs, .int mB, .ref aMl, .int mI, .ref aMx, .int mH, .int mQ, .int mW, .ref aMd, .int mF, .int mR, .int mD, .int mJ, .int mA, .int mT])), (aMl, .inl (K 10, 60, .inl nL))] sz) := by
  intro n
  induction n with
  | zero =>
    intro mU mB mI mH mQ mW mF mR mD mJ mA mT nL p1 v hF
    exact nomatch hF
  | succ n ih =>
    intro mU mB mI mH mQ mW mF mR mD mJ mA mT nL p1 v hF sz
    refine pro (Qf := fun A => QV D (TY K) (wf_X8_writes K aM aMn aMt aMk aMs aMl aMx aMd mU mB mH mQ mW mF mR mD mJ mA mT) v A) (cc := cX8_writes) (maxL := 2) (ret := none) (by decide +kernel) rfl (Nat.le_of_ble_eq_true rfl) ?_
    intro p e s m args below meth c hx hb hr hts hown hlocks hml hini hK A hA hE hP hD hS ls hl
    have hown : s.vm.findClass RX8 = some m.cls := hown
    have hl : lv_has ls 2 [(0, .ref aM), (1, .int p1)] := hl
    rw [f_X8_writes_R.eq_2] at hF
    refine lv_iload_n hx hb dX8_writes_0 rfl (lv_at hl 1 rfl) ?_
    refine lv_bipush (v := (9 : Int32)) hx hb dX8_writes_1 (by decide) ?_
    refine lv_icmp_le (tgt := 14) hx hb dX8_writes_3 (by decide) (fun c1 => ?_) (fun c1 => ?_)
    · have hF := oT c1 hF
      refine lv_aload_n hx hb dX8_writes_14 rfl (lv_at hl 0 rfl) ?_
      refine lv_bipush (v := (48 : Int32)) hx hb dX8_writes_15 (by decide) ?_
      refine lv_iload_n hx hb dX8_writes_17 rfl (lv_at hl 1 rfl) ?_
      refine lv_bipush (v := (10 : Int32)) hx hb dX8_writes_18 (by decide) ?_
      refine lv_irem hx hb dX8_writes_20 (by decide) ?_
      refine lv_iadd hx hb dX8_writes_21 ?_
      refine lv_i2c (v := (((48 : Int32) + (p1 - p1 / (10 : Int32) * (10 : Int32))).toUInt32 % 65536).toInt32) hx hb dX8_writes_22 rfl ?_
      obtain ⟨v2, hv2, hF⟩ := oB hF
      refine call_v (wr := []) (wn := [(aM, .inr (6, [.ref aMn, .ref aMt, .ref aMk, .int mU, .ref aMs, .int mB, .ref aMl, .int v2.1, .ref aMx, .int mH, .int mQ, .int mW, .ref aMd, .int mF, .int mR, .int mD, .int mJ, .int mA, .int mT])), (aMl, .inl (K 10, 60, .inl v2.2))]) (va_runV (As := [.int ((((48 : Int32) + (p1 - p1 / (10 : Int32) * (10 : Int32))).toUInt32 % 65536).toInt32)]) (rest := []) ⟨hx, hb, hml, hown, hts⟩ (c_X8_signs l D K aM aMn aMt aMk aMs aMl aMx aMd mU mB mI mH mQ mW mF mR mD mJ mA mT nL ((((48 : Int32) + (p1 - p1 / (10 : Int32) * (10 : Int32))).toUInt32 % 65536).toInt32) v2 hv2 s.heap.size) (cwV 1 hts gX8_writes_X8_signs rfl rfl rfl (by decide +kernel) ⟨by show _ ≤ n + 2; omega, by show _ ≤ 32 * (n + 2); omega⟩) (prV hE hK hP hD hS hA [0, 1] rfl rfl 6 0 rfl rfl rfl) rfl rfl hl.1 rfl (lv_room (Nat.le_of_ble_eq_true rfl)) dX8_writes_23 ⟨(Nat.le_of_ble_eq_true rfl), (Nat.le_of_ble_eq_true rfl)⟩) hP hD hS hA [0, 1] [] [0, 1] rfl rfl rfl (by decide) rfl rfl (fun H locs hP hD hS => ?_)
      exact fin_v (u := (v2.1, v2.2)) hF hx hb hr hlocks hK hP hD hS (Nat.le_of_ble_eq_true rfl) (Nat.le_of_ble_eq_true rfl) dX8_writes_26
    · have hF := oF c1 hF
      refine lv_aload_n hx hb dX8_writes_6 rfl (lv_at hl 0 rfl) ?_
      refine lv_iload_n hx hb dX8_writes_7 rfl (lv_at hl 1 rfl) ?_
      refine lv_bipush (v := (10 : Int32)) hx hb dX8_writes_8 (by decide) ?_
      refine lv_idiv hx hb dX8_writes_10 (by decide) ?_
      obtain ⟨v3, hv3, hF⟩ := oB hF
      refine call_v (wr := []) (wn := [(aM, .inr (6, [.ref aMn, .ref aMt, .ref aMk, .int mU, .ref aMs, .int mB, .ref aMl, .int v3.1, .ref aMx, .int mH, .int mQ, .int mW, .ref aMd, .int mF, .int mR, .int mD, .int mJ, .int mA, .int mT])), (aMl, .inl (K 10, 60, .inl v3.2))]) (va_runV (As := [.int (p1 / (10 : Int32))]) (rest := []) ⟨hx, hb, hml, hown, hts⟩ (ih mU mB mI mH mQ mW mF mR mD mJ mA mT nL (p1 / (10 : Int32)) v3 hv3 s.heap.size) (cwV 1 hts gX8_writes_X8_writes rfl rfl rfl (by decide +kernel) ⟨Nat.le_refl _, by show 8 + (2 + 11) + 32 * (n + 1) ≤ 32 * (n + 2); omega⟩) (prV hE hK hP hD hS hA [0, 1] rfl rfl 6 0 rfl rfl rfl) rfl rfl hl.1 rfl (lv_room (Nat.le_of_ble_eq_true rfl)) dX8_writes_11 ⟨(Nat.le_of_ble_eq_true rfl), (Nat.le_of_ble_eq_true rfl)⟩) hP hD hS hA [0, 1] [] [0, 1] rfl rfl rfl (by decide) rfl rfl (fun H locs hP hD hS => ?_)
      refine lv_aload_n hx hb dX8_writes_14 rfl (lv_at hl 0 rfl) ?_
      refine lv_bipush (v := (48 : Int32)) hx hb dX8_writes_15 (by decide) ?_
      refine lv_iload_n hx hb dX8_writes_17 rfl (lv_at hl 1 rfl) ?_
      refine lv_bipush (v := (10 : Int32)) hx hb dX8_writes_18 (by decide) ?_
      refine lv_irem hx hb dX8_writes_20 (by decide) ?_
      refine lv_iadd hx hb dX8_writes_21 ?_
      refine lv_i2c (v := (((48 : Int32) + (p1 - p1 / (10 : Int32) * (10 : Int32))).toUInt32 % 65536).toInt32) hx hb dX8_writes_22 rfl ?_
      obtain ⟨v4, hv4, hF⟩ := oB hF
      refine call_v (wr := []) (wn := [(aM, .inr (6, [.ref aMn, .ref aMt, .ref aMk, .int mU, .ref aMs, .int mB, .ref aMl, .int v4.1, .ref aMx, .int mH, .int mQ, .int mW, .ref aMd, .int mF, .int mR, .int mD, .int mJ, .int mA, .int mT])), (aMl, .inl (K 10, 60, .inl v4.2))]) (va_runV (As := [.int ((((48 : Int32) + (p1 - p1 / (10 : Int32) * (10 : Int32))).toUInt32 % 65536).toInt32)]) (rest := []) ⟨hx, hb, hml, hown, hts⟩ (c_X8_signs l D K aM aMn aMt aMk aMs aMl aMx aMd mU mB v3.1 mH mQ mW mF mR mD mJ mA mT v3.2 ((((48 : Int32) + (p1 - p1 / (10 : Int32) * (10 : Int32))).toUInt32 % 65536).toInt32) v4 hv4 H.size) (cwV 1 hts gX8_writes_X8_signs rfl rfl rfl (by decide +kernel) ⟨by show _ ≤ n + 2; omega, by show _ ≤ 32 * (n + 2); omega⟩) (prV hE hK hP hD hS hA [0, 1] rfl rfl 6 0 rfl rfl rfl) rfl rfl hl.1 rfl (lv_room (Nat.le_of_ble_eq_true rfl)) dX8_writes_23 ⟨(Nat.le_of_ble_eq_true rfl), (Nat.le_of_ble_eq_true rfl)⟩) hP hD hS hA [0, 1] [] [0, 1] rfl rfl rfl (by decide) rfl rfl (fun H locs hP hD hS => ?_)
      exact fin_v (u := (v4.1, v4.2)) hF hx hb hr hlocks hK hP hD hS (Nat.le_of_ble_eq_true rfl) (Nat.le_of_ble_eq_true rfl) dX8_writes_26
theorem c_X8_writes (l : Launch) (D : va_G) (K : Nat → ClassId) (aM : Nat) (aMn : Nat) (aMt : Nat) (aMk : Nat) (aMs : Nat) (aMl : Nat) (aMx : Nat) (aMd : Nat) (mU : Int32) (mB : Int32) (mI : Int32) (mH : Int32) (mQ : Int32) (mW : Int32) (mF : Int32) (mR : Int32) (mD : Int32) (mJ : Int32) (mA : Int32) (mT : Int32) (nL : Nat → Int32) (p1 : Int32) (v : Int32 × (Nat → Int32)) (hF : f_X8_writes mI nL p1 = some v) (sz : Nat) :
    Met l yX8_writes wsX8_writes RM_X8_writes (PC D (TY K) [(aM, .inr (6, [.ref aMn, .ref aMt, .ref aMk, .int mU, .ref aMs, .int mB, .ref aMl, .int mI, .ref aMx, .int mH, .int mQ, .int mW, .ref aMd, .int mF, .int mR, .int mD, .int mJ, .int mA, .int mT])), (aMl, .inl (K 10, 60, .inl nL))] [.ref aM, .int p1] sz) (QV D (TY K) (wf_X8_writes K aM aMn aMt aMk aMs aMl aMx aMd mU mB mH mQ mW mF mR mD mJ mA mT) v (va_A [(aM, .inr (6, [.ref aMn, .ref aMt, .ref aMk, .int mU, .ref aMs, .int mB, .ref aMl, .int mI, .ref aMx, .int mH, .int mQ, .int mW, .ref aMd, .int mF, .int mR, .int mD, .int mJ, .int mA, .int mT])), (aMl, .inl (K 10, 60, .inl nL))] sz)) MC_X8_writes MS_X8_writes (va_A [(aM, .inr (6, [.ref aMn, .ref aMt, .ref aMk, .int mU, .ref aMs, .int mB, .ref aMl, .int mI, .ref aMx, .int mH, .int mQ, .int mW, .ref aMd, .int mF, .int mR, .int mD, .int mJ, .int mA, .int mT])), (aMl, .inl (K 10, 60, .inl nL))] sz) := c_X8_writes_R l D K aM aMn aMt aMk aMs aMl aMx aMd 13 mU mB mI mH mQ mW mF mR mD mJ mA mT nL p1 v hF sz
abbrev RM_X8_line : Room := { frames := 15, cells := 0, slots := 0, locals := 469 }
abbrev MC_X8_line : Nat := 0
abbrev MS_X8_line : Nat := 0
abbrev wf_X8_line (K : Nat → ClassId) (aM : Nat) (aMn : Nat) (aMt : Nat) (aMk : Nat) (aMs : Nat) (aMl : Nat) (aMx : Nat) (aMd : Nat) (mU : Int32) (mB : Int32) (mH : Int32) (mQ : Int32) (mW : Int32) (mF : Int32) (mR : Int32) (mD : Int32) (mJ : Int32) (mA : Int32) (nN : Nat → Int32) (v : Int32 × Int32 × Int32 × (Nat → Int32)) : va_W := [(aM, .inr (6, [.ref aMn, .ref aMt, .ref aMk, .int mU, .ref aMs, .int mB, .ref aMl, .int v.2.1, .ref aMx, .int mH, .int mQ, .int mW, .ref aMd, .int mF, .int mR, .int mD, .int mJ, .int mA, .int v.2.2.1])), (aMn, .inl (K 6, 55, .inl nN)), (aMl, .inl (K 10, 60, .inl v.2.2.2))]
set_option maxHeartbeats 4000000 in
set_option maxRecDepth 100000 in
theorem c_X8_line (l : Launch) (D : va_G) (K : Nat → ClassId) (aM : Nat) (aMn : Nat) (aMt : Nat) (aMk : Nat) (aMs : Nat) (aMl : Nat) (aMx : Nat) (aMd : Nat) (mU : Int32) (mB : Int32) (mI : Int32) (mH : Int32) (mQ : Int32) (mW : Int32) (mF : Int32) (mR : Int32) (mD : Int32) (mJ : Int32) (mA : Int32) (mT : Int32) (nN : Nat → Int32) (nL : Nat → Int32) (p1 : Int32) (v : Int32 × Int32 × Int32 × (Nat → Int32)) (hF : f_X8_line mI mT nN nL p1 = some v) (sz : Nat) :
    (Met l yX8_line wsX8_line RM_X8_line (PC D (TY K) [(aM, .inr (6, [.ref aMn, .ref aMt, .ref aMk, .int mU, .ref aMs, .int mB, .ref aMl, .int mI, .ref aMx, .int mH, .int mQ, .int mW, .ref aMd, .int mF, .int mR, .int mD, .int mJ, .int mA, .int mT])), (aMn, .inl (K 6, 55, .inl nN)), (aMl, .inl (K 10, 60, .inl nL))] [.ref aM, .int p1] sz) (QI D (TY K) (wf_X8_line K aM aMn aMt aMk aMs aMl aMx aMd mU mB mH mQ mW mF mR mD mJ mA nN) v (va_A [(aM, .inr (6, [.ref aMn, .ref aMt, .ref aMk, .int mU, .ref aMs, .int mB, .ref aMl, .int mI, .ref aMx, .int mH, .int mQ, .int mW, .ref aMd, .int mF, .int mR, .int mD, .int mJ, .int mA, .int mT])), (aMn, .inl (K 6, 55, .inl nN)), (aMl, .inl (K 10, 60, .inl nL))] sz)) MC_X8_line MS_X8_line (va_A [(aM, .inr (6, [.ref aMn, .ref aMt, .ref aMk, .int mU, .ref aMs, .int mB, .ref aMl, .int mI, .ref aMx, .int mH, .int mQ, .int mW, .ref aMd, .int mF, .int mR, .int mD, .int mJ, .int mA, .int mT])), (aMn, .inl (K 6, 55, .inl nN)), (aMl, .inl (K 10, 60, .inl nL))] sz)) := by
  refine pro (Qf := fun A => QI D (TY K) (wf_X8_line K aM aMn aMt aMk aMs aMl aMx aMd mU mB mH mQ mW mF mR mD mJ mA nN) v A) (cc := cX8_line) (maxL := 2) (ret := (some .int)) (by decide +kernel) rfl (Nat.le_of_ble_eq_true rfl) ?_
  intro p e s m args below meth c hx hb hr hts hown hlocks hml hini hK A hA hE hP hD hS ls hl
  have hown : s.vm.findClass RX8 = some m.cls := hown
  have hl : lv_has ls 2 [(0, .ref aM), (1, .int p1)] := hl
  rw [f_X8_line] at hF
  refine lv_aload_n hx hb dX8_line_0 rfl (lv_at hl 0 rfl) ?_
  refine lv_aload_n hx hb dX8_line_1 rfl (lv_at hl 0 rfl) ?_
  refine lv_iload_n hx hb dX8_line_2 rfl (lv_at hl 1 rfl) ?_
  obtain ⟨v1, hv1, hF⟩ := oB hF
  refine call_i (wr := [(aMl, .inl (K 10, 60, .inl nL))]) (wn := [(aM, .inr (6, [.ref aMn, .ref aMt, .ref aMk, .int mU, .ref aMs, .int mB, .ref aMl, .int mI, .ref aMx, .int mH, .int mQ, .int mW, .ref aMd, .int mF, .int mR, .int mD, .int mJ, .int mA, .int mT])), (aMn, .inl (K 6, 55, .inl nN)), (aMl, .inl (K 10, 60, .inl nL))]) (va_runV (As := [.int p1]) (rest := [.ref aM]) ⟨hx, hb, hml, hown, hts⟩ (c_X8_isMember l D K aM aMn aMt aMk aMs aMl aMx aMd mU mB mI mH mQ mW mF mR mD mJ mA mT nN p1 v1 hv1 s.heap.size) (cwV 1 hts gX8_line_X8_isMember rfl rfl rfl (by decide +kernel) ⟨(Nat.le_of_ble_eq_true rfl), (Nat.le_of_ble_eq_true rfl)⟩) (prV hE hK hP hD hS hA [0, 1] rfl rfl 6 0 rfl rfl rfl) rfl rfl hl.1 rfl (lv_room (Nat.le_of_ble_eq_true rfl)) dX8_line_3 ⟨(Nat.le_of_ble_eq_true rfl), (Nat.le_of_ble_eq_true rfl)⟩) hP hD hS hA [0, 1] [2] [1, 2, 0] rfl rfl rfl (by decide) rfl rfl (fun H locs hP hD hS => ?_)
  refine lv_if_eq (tgt := 13) hx hb dX8_line_6 (by decide) (fun c2 => ?_) (fun c2 => ?_)
  · have hF := oT c2 hF
    refine lv_iconst (v := (1 : Int32)) hx hb dX8_line_13 (by decide) ?_
    refine va_put (D := D) (ci := 6) (v := .int (1 : Int32)) (ty := .int) (C := RX8) (T := TX8) (N := 19) hx hb hts (fun _ h => List.mem_cons_of_mem _ (List.mem_append_left _ (List.mem_append_right _ h))) tyX8 tyX8_ok nmX8 hown hK hP hD hS 0 rfl rfl 18 (by decide) (hts (.fieldLink RX8 36 "BarometerClubModel" "thrown" "I") (List.mem_of_getElem? (i := 1) rfl)) (fun _ h9 => h9) rfl (by decide +kernel) rfl rfl (Nat.le_of_ble_eq_true rfl) dX8_line_14 (fun H locs hP hD hS => ?_)
    have hP : va_P D vwC7 [(aM, .inr (6, [.ref aMn, .ref aMt, .ref aMk, .int mU, .ref aMs, .int mB, .ref aMl, .int mI, .ref aMx, .int mH, .int mQ, .int mW, .ref aMd, .int mF, .int mR, .int mD, .int mJ, .int mA, .int (1 : Int32)])), (aMn, .inl (K 6, 55, .inl nN)), (aMl, .inl (K 10, 60, .inl nL))] H := hP
    have hD : va_D A [(aM, .inr (6, [.ref aMn, .ref aMt, .ref aMk, .int mU, .ref aMs, .int mB, .ref aMl, .int mI, .ref aMx, .int mH, .int mQ, .int mW, .ref aMd, .int mF, .int mR, .int mD, .int mJ, .int mA, .int (1 : Int32)])), (aMn, .inl (K 6, 55, .inl nN)), (aMl, .inl (K 10, 60, .inl nL))] := hD
    refine lv_aload_n hx hb dX8_line_17 rfl (lv_at hl 0 rfl) ?_
    refine va_get (D := D) (ci := 6) (v := .int (1 : Int32)) (C := RX8) (T := TX8) (N := 19) hx hb hts (fun _ h => List.mem_cons_of_mem _ (List.mem_append_left _ (List.mem_append_right _ h))) hown hK hP 0 rfl rfl 18 (by decide) (hts (.fieldLink RX8 36 "BarometerClubModel" "thrown" "I") (List.mem_of_getElem? (i := 1) rfl)) (fun _ h9 => h9) rfl dX8_line_18 ?_
    refine lv_if_le (tgt := 26) hx hb dX8_line_21 (by decide) (fun c9 => absurd c9 (by decide)) (fun _ => ?_)
    refine lv_iconst (v := (0 : Int32)) hx hb dX8_line_24 (by decide) ?_
    exact fin_i (u := ((0 : Int32), (mI, (1 : Int32), nL))) hF hx hb hr hlocks hK hP hD hS (Nat.le_of_ble_eq_true rfl) (Nat.le_of_ble_eq_true rfl) dX8_line_25
  · have hF := oF c2 hF
    refine lv_iconst (v := (0 : Int32)) hx hb dX8_line_9 (by decide) ?_
    refine lv_goto (tgt := 14) hx hb dX8_line_10 (by decide) ?_
    refine va_put (D := D) (ci := 6) (v := .int (0 : Int32)) (ty := .int) (C := RX8) (T := TX8) (N := 19) hx hb hts (fun _ h => List.mem_cons_of_mem _ (List.mem_append_left _ (List.mem_append_right _ h))) tyX8 tyX8_ok nmX8 hown hK hP hD hS 0 rfl rfl 18 (by decide) (hts (.fieldLink RX8 36 "BarometerClubModel" "thrown" "I") (List.mem_of_getElem? (i := 1) rfl)) (fun _ h9 => h9) rfl (by decide +kernel) rfl rfl (Nat.le_of_ble_eq_true rfl) dX8_line_14 (fun H locs hP hD hS => ?_)
    have hP : va_P D vwC7 [(aM, .inr (6, [.ref aMn, .ref aMt, .ref aMk, .int mU, .ref aMs, .int mB, .ref aMl, .int mI, .ref aMx, .int mH, .int mQ, .int mW, .ref aMd, .int mF, .int mR, .int mD, .int mJ, .int mA, .int (0 : Int32)])), (aMn, .inl (K 6, 55, .inl nN)), (aMl, .inl (K 10, 60, .inl nL))] H := hP
    have hD : va_D A [(aM, .inr (6, [.ref aMn, .ref aMt, .ref aMk, .int mU, .ref aMs, .int mB, .ref aMl, .int mI, .ref aMx, .int mH, .int mQ, .int mW, .ref aMd, .int mF, .int mR, .int mD, .int mJ, .int mA, .int (0 : Int32)])), (aMn, .inl (K 6, 55, .inl nN)), (aMl, .inl (K 10, 60, .inl nL))] := hD
    refine lv_aload_n hx hb dX8_line_17 rfl (lv_at hl 0 rfl) ?_
    refine va_get (D := D) (ci := 6) (v := .int (0 : Int32)) (C := RX8) (T := TX8) (N := 19) hx hb hts (fun _ h => List.mem_cons_of_mem _ (List.mem_append_left _ (List.mem_append_right _ h))) hown hK hP 0 rfl rfl 18 (by decide) (hts (.fieldLink RX8 36 "BarometerClubModel" "thrown" "I") (List.mem_of_getElem? (i := 1) rfl)) (fun _ h9 => h9) rfl dX8_line_18 ?_
    refine lv_if_le (tgt := 26) hx hb dX8_line_21 (by decide) (fun _ => ?_) (fun c9 => absurd (by decide) c9)
    refine lv_aload_n hx hb dX8_line_26 rfl (lv_at hl 0 rfl) ?_
    refine lv_iconst (v := (0 : Int32)) hx hb dX8_line_27 (by decide) ?_
    refine va_put (D := D) (ci := 6) (v := .int (0 : Int32)) (ty := .int) (C := RX8) (T := TX8) (N := 19) hx hb hts (fun _ h => List.mem_cons_of_mem _ (List.mem_append_left _ (List.mem_append_right _ h))) tyX8 tyX8_ok nmX8 hown hK hP hD hS 0 rfl rfl 7 (by decide) (hts (.fieldLink RX8 209 "BarometerClubModel" "lined" "I") (List.mem_of_getElem? (i := 2) rfl)) (fun _ h9 => h9) rfl (by decide +kernel) rfl rfl (Nat.le_of_ble_eq_true rfl) dX8_line_28 (fun H locs hP hD hS => ?_)
    have hP : va_P D vwC7 [(aM, .inr (6, [.ref aMn, .ref aMt, .ref aMk, .int mU, .ref aMs, .int mB, .ref aMl, .int (0 : Int32), .ref aMx, .int mH, .int mQ, .int mW, .ref aMd, .int mF, .int mR, .int mD, .int mJ, .int mA, .int (0 : Int32)])), (aMn, .inl (K 6, 55, .inl nN)), (aMl, .inl (K 10, 60, .inl nL))] H := hP
    have hD : va_D A [(aM, .inr (6, [.ref aMn, .ref aMt, .ref aMk, .int mU, .ref aMs, .int mB, .ref aMl, .int (0 : Int32), .ref aMx, .int mH, .int mQ, .int mW, .ref aMd, .int mF, .int mR, .int mD, .int mJ, .int mA, .int (0 : Int32)])), (aMn, .inl (K 6, 55, .inl nN)), (aMl, .inl (K 10, 60, .inl nL))] := hD
    refine lv_aload_n hx hb dX8_line_31 rfl (lv_at hl 0 rfl) ?_
    refine lv_aload_n hx hb dX8_line_32 rfl (lv_at hl 0 rfl) ?_
    refine lv_iload_n hx hb dX8_line_33 rfl (lv_at hl 1 rfl) ?_
    refine lv_iconst (v := (0 : Int32)) hx hb dX8_line_34 (by decide) ?_
    obtain ⟨v5, hv5, hF⟩ := oB hF
    refine call_i (wr := [(aMl, .inl (K 10, 60, .inl nL))]) (wn := [(aM, .inr (6, [.ref aMn, .ref aMt, .ref aMk, .int mU, .ref aMs, .int mB, .ref aMl, .int (0 : Int32), .ref aMx, .int mH, .int mQ, .int mW, .ref aMd, .int mF, .int mR, .int mD, .int mJ, .int mA, .int (0 : Int32)])), (aMn, .inl (K 6, 55, .inl nN)), (aMl, .inl (K 10, 60, .inl nL))]) (va_runV (As := [.int p1, .int (0 : Int32)]) (rest := [.ref aM]) ⟨hx, hb, hml, hown, hts⟩ (c_X8_of l D K aM aMn aMt aMk aMs aMl aMx aMd mU mB (0 : Int32) mH mQ mW mF mR mD mJ mA (0 : Int32) nN p1 (0 : Int32) v5 hv5 H.size) (cwV 2 hts gX8_line_X8_of rfl rfl rfl (by decide +kernel) ⟨(Nat.le_of_ble_eq_true rfl), (Nat.le_of_ble_eq_true rfl)⟩) (prV hE hK hP hD hS hA [0, 1] rfl rfl 6 0 rfl rfl rfl) rfl rfl hl.1 rfl (lv_room (Nat.le_of_ble_eq_true rfl)) dX8_line_35 ⟨(Nat.le_of_ble_eq_true rfl), (Nat.le_of_ble_eq_true rfl)⟩) hP hD hS hA [0, 1] [2] [1, 2, 0] rfl rfl rfl (by decide) rfl rfl (fun H locs hP hD hS => ?_)
    obtain ⟨v6, hv6, hF⟩ := oB hF
    refine call_v (wr := [(aMn, .inl (K 6, 55, .inl nN))]) (wn := [(aM, .inr (6, [.ref aMn, .ref aMt, .ref aMk, .int mU, .ref aMs, .int mB, .ref aMl, .int v6.1, .ref aMx, .int mH, .int mQ, .int mW, .ref aMd, .int mF, .int mR, .int mD, .int mJ, .int mA, .int (0 : Int32)])), (aMn, .inl (K 6, 55, .inl nN)), (aMl, .inl (K 10, 60, .inl v6.2))]) (va_runV (As := [.int v5.1]) (rest := []) ⟨hx, hb, hml, hown, hts⟩ (c_X8_writes l D K aM aMn aMt aMk aMs aMl aMx aMd mU mB (0 : Int32) mH mQ mW mF mR mD mJ mA (0 : Int32) nL v5.1 v6 hv6 H.size) (cwV 1 hts gX8_line_X8_writes rfl rfl rfl (by decide +kernel) ⟨(Nat.le_of_ble_eq_true rfl), (Nat.le_of_ble_eq_true rfl)⟩) (prV hE hK hP hD hS hA [0, 2] rfl rfl 6 0 rfl rfl rfl) rfl rfl hl.1 rfl (lv_room (Nat.le_of_ble_eq_true rfl)) dX8_line_38 ⟨(Nat.le_of_ble_eq_true rfl), (Nat.le_of_ble_eq_true rfl)⟩) hP hD hS hA [0, 2] [1] [1, 0, 2] rfl rfl rfl (by decide) rfl rfl (fun H locs hP hD hS => ?_)
    refine lv_aload_n hx hb dX8_line_41 rfl (lv_at hl 0 rfl) ?_
    refine lv_bipush (v := (64 : Int32)) hx hb dX8_line_42 (by decide) ?_
    obtain ⟨v7, hv7, hF⟩ := oB hF
    refine call_v (wr := [(aMn, .inl (K 6, 55, .inl nN))]) (wn := [(aM, .inr (6, [.ref aMn, .ref aMt, .ref aMk, .int mU, .ref aMs, .int mB, .ref aMl, .int v7.1, .ref aMx, .int mH, .int mQ, .int mW, .ref aMd, .int mF, .int mR, .int mD, .int mJ, .int mA, .int (0 : Int32)])), (aMn, .inl (K 6, 55, .inl nN)), (aMl, .inl (K 10, 60, .inl v7.2))]) (va_runV (As := [.int (64 : Int32)]) (rest := []) ⟨hx, hb, hml, hown, hts⟩ (c_X8_signs l D K aM aMn aMt aMk aMs aMl aMx aMd mU mB v6.1 mH mQ mW mF mR mD mJ mA (0 : Int32) v6.2 (64 : Int32) v7 hv7 H.size) (cwV 1 hts gX8_line_X8_signs rfl rfl rfl (by decide +kernel) ⟨(Nat.le_of_ble_eq_true rfl), (Nat.le_of_ble_eq_true rfl)⟩) (prV hE hK hP hD hS hA [0, 2] rfl rfl 6 0 rfl rfl rfl) rfl rfl hl.1 rfl (lv_room (Nat.le_of_ble_eq_true rfl)) dX8_line_44 ⟨(Nat.le_of_ble_eq_true rfl), (Nat.le_of_ble_eq_true rfl)⟩) hP hD hS hA [0, 2] [1] [1, 0, 2] rfl rfl rfl (by decide) rfl rfl (fun H locs hP hD hS => ?_)
    refine lv_aload_n hx hb dX8_line_47 rfl (lv_at hl 0 rfl) ?_
    refine lv_aload_n hx hb dX8_line_48 rfl (lv_at hl 0 rfl) ?_
    refine lv_iload_n hx hb dX8_line_49 rfl (lv_at hl 1 rfl) ?_
    refine lv_iconst (v := (1 : Int32)) hx hb dX8_line_50 (by decide) ?_
    obtain ⟨v8, hv8, hF⟩ := oB hF
    refine call_i (wr := [(aMl, .inl (K 10, 60, .inl v7.2))]) (wn := [(aM, .inr (6, [.ref aMn, .ref aMt, .ref aMk, .int mU, .ref aMs, .int mB, .ref aMl, .int v7.1, .ref aMx, .int mH, .int mQ, .int mW, .ref aMd, .int mF, .int mR, .int mD, .int mJ, .int mA, .int (0 : Int32)])), (aMn, .inl (K 6, 55, .inl nN)), (aMl, .inl (K 10, 60, .inl v7.2))]) (va_runV (As := [.int p1, .int (1 : Int32)]) (rest := [.ref aM]) ⟨hx, hb, hml, hown, hts⟩ (c_X8_of l D K aM aMn aMt aMk aMs aMl aMx aMd mU mB v7.1 mH mQ mW mF mR mD mJ mA (0 : Int32) nN p1 (1 : Int32) v8 hv8 H.size) (cwV 2 hts gX8_line_X8_of rfl rfl rfl (by decide +kernel) ⟨(Nat.le_of_ble_eq_true rfl), (Nat.le_of_ble_eq_true rfl)⟩) (prV hE hK hP hD hS hA [0, 1] rfl rfl 6 0 rfl rfl rfl) rfl rfl hl.1 rfl (lv_room (Nat.le_of_ble_eq_true rfl)) dX8_line_51 ⟨(Nat.le_of_ble_eq_true rfl), (Nat.le_of_ble_eq_true rfl)⟩) hP hD hS hA [0, 1] [2] [1, 2, 0] rfl rfl rfl (by decide) rfl rfl (fun H locs hP hD hS => ?_)
    obtain ⟨v9, hv9, hF⟩ := oB hF
    refine call_v (wr := [(aMn, .inl (K 6, 55, .inl nN))]) (wn := [(aM, .inr (6, [.ref aMn, .ref aMt, .ref aMk, .int mU, .ref aMs, .int mB, .ref aMl, .int v9.1, .ref aMx, .int mH, .int mQ, .int mW, .ref aMd, .int mF, .int mR, .int mD, .int mJ, .int mA, .int (0 : Int32)])), (aMn, .inl (K 6, 55, .inl nN)), (aMl, .inl (K 10, 60, .inl v9.2))]) (va_runV (As := [.int v8.1]) (rest := []) ⟨hx, hb, hml, hown, hts⟩ (c_X8_writes l D K aM aMn aMt aMk aMs aMl aMx aMd mU mB v7.1 mH mQ mW mF mR mD mJ mA (0 : Int32) v7.2 v8.1 v9 hv9 H.size) (cwV 1 hts gX8_line_X8_writes rfl rfl rfl (by decide +kernel) ⟨(Nat.le_of_ble_eq_true rfl), (Nat.le_of_ble_eq_true rfl)⟩) (prV hE hK hP hD hS hA [0, 2] rfl rfl 6 0 rfl rfl rfl) rfl rfl hl.1 rfl (lv_room (Nat.le_of_ble_eq_true rfl)) dX8_line_54 ⟨(Nat.le_of_ble_eq_true rfl), (Nat.le_of_ble_eq_true rfl)⟩) hP hD hS hA [0, 2] [1] [1, 0, 2] rfl rfl rfl (by decide) rfl rfl (fun H locs hP hD hS => ?_)
    refine lv_aload_n hx hb dX8_line_57 rfl (lv_at hl 0 rfl) ?_
    refine lv_iload_n hx hb dX8_line_58 rfl (lv_at hl 1 rfl) ?_
    obtain ⟨v10, hv10, hF⟩ := oB hF
    refine call_i (wr := [(aMl, .inl (K 10, 60, .inl v9.2))]) (wn := [(aM, .inr (6, [.ref aMn, .ref aMt, .ref aMk, .int mU, .ref aMs, .int mB, .ref aMl, .int v9.1, .ref aMx, .int mH, .int mQ, .int mW, .ref aMd, .int mF, .int mR, .int mD, .int mJ, .int mA, .int (0 : Int32)])), (aMn, .inl (K 6, 55, .inl nN)), (aMl, .inl (K 10, 60, .inl v9.2))]) (va_runV (As := [.int p1]) (rest := []) ⟨hx, hb, hml, hown, hts⟩ (c_X8_hasWagered l D K aM aMn aMt aMk aMs aMl aMx aMd mU mB v9.1 mH mQ mW mF mR mD mJ mA (0 : Int32) nN p1 v10 hv10 H.size) (cwV 1 hts gX8_line_X8_hasWagered rfl rfl rfl (by decide +kernel) ⟨(Nat.le_of_ble_eq_true rfl), (Nat.le_of_ble_eq_true rfl)⟩) (prV hE hK hP hD hS hA [0, 1] rfl rfl 6 0 rfl rfl rfl) rfl rfl hl.1 rfl (lv_room (Nat.le_of_ble_eq_true rfl)) dX8_line_59 ⟨(Nat.le_of_ble_eq_true rfl), (Nat.le_of_ble_eq_true rfl)⟩) hP hD hS hA [0, 1] [2] [1, 2, 0] rfl rfl rfl (by decide) rfl rfl (fun H locs hP hD hS => ?_)
    refine lv_if_ne (tgt := 70) hx hb dX8_line_62 (by decide) (fun c11 => ?_) (fun c11 => ?_)
    · have hF := oF c11 hF
      refine lv_aload_n hx hb dX8_line_70 rfl (lv_at hl 0 rfl) ?_
      refine lv_bipush (v := (61 : Int32)) hx hb dX8_line_71 (by decide) ?_
      obtain ⟨v12, hv12, hF⟩ := oB hF
      refine call_v (wr := [(aMn, .inl (K 6, 55, .inl nN))]) (wn := [(aM, .inr (6, [.ref aMn, .ref aMt, .ref aMk, .int mU, .ref aMs, .int mB, .ref aMl, .int v12.1, .ref aMx, .int mH, .int mQ, .int mW, .ref aMd, .int mF, .int mR, .int mD, .int mJ, .int mA, .int (0 : Int32)])), (aMn, .inl (K 6, 55, .inl nN)), (aMl, .inl (K 10, 60, .inl v12.2))]) (va_runV (As := [.int (61 : Int32)]) (rest := []) ⟨hx, hb, hml, hown, hts⟩ (c_X8_signs l D K aM aMn aMt aMk aMs aMl aMx aMd mU mB v9.1 mH mQ mW mF mR mD mJ mA (0 : Int32) v9.2 (61 : Int32) v12 hv12 H.size) (cwV 1 hts gX8_line_X8_signs rfl rfl rfl (by decide +kernel) ⟨(Nat.le_of_ble_eq_true rfl), (Nat.le_of_ble_eq_true rfl)⟩) (prV hE hK hP hD hS hA [0, 2] rfl rfl 6 0 rfl rfl rfl) rfl rfl hl.1 rfl (lv_room (Nat.le_of_ble_eq_true rfl)) dX8_line_73 ⟨(Nat.le_of_ble_eq_true rfl), (Nat.le_of_ble_eq_true rfl)⟩) hP hD hS hA [0, 2] [1] [1, 0, 2] rfl rfl rfl (by decide) rfl rfl (fun H locs hP hD hS => ?_)
      refine lv_aload_n hx hb dX8_line_76 rfl (lv_at hl 0 rfl) ?_
      refine lv_aload_n hx hb dX8_line_77 rfl (lv_at hl 0 rfl) ?_
      refine lv_iload_n hx hb dX8_line_78 rfl (lv_at hl 1 rfl) ?_
      refine lv_iconst (v := (2 : Int32)) hx hb dX8_line_79 (by decide) ?_
      obtain ⟨v13, hv13, hF⟩ := oB hF
      refine call_i (wr := [(aMl, .inl (K 10, 60, .inl v12.2))]) (wn := [(aM, .inr (6, [.ref aMn, .ref aMt, .ref aMk, .int mU, .ref aMs, .int mB, .ref aMl, .int v12.1, .ref aMx, .int mH, .int mQ, .int mW, .ref aMd, .int mF, .int mR, .int mD, .int mJ, .int mA, .int (0 : Int32)])), (aMn, .inl (K 6, 55, .inl nN)), (aMl, .inl (K 10, 60, .inl v12.2))]) (va_runV (As := [.int p1, .int (2 : Int32)]) (rest := [.ref aM]) ⟨hx, hb, hml, hown, hts⟩ (c_X8_of l D K aM aMn aMt aMk aMs aMl aMx aMd mU mB v12.1 mH mQ mW mF mR mD mJ mA (0 : Int32) nN p1 (2 : Int32) v13 hv13 H.size) (cwV 2 hts gX8_line_X8_of rfl rfl rfl (by decide +kernel) ⟨(Nat.le_of_ble_eq_true rfl), (Nat.le_of_ble_eq_true rfl)⟩) (prV hE hK hP hD hS hA [0, 1] rfl rfl 6 0 rfl rfl rfl) rfl rfl hl.1 rfl (lv_room (Nat.le_of_ble_eq_true rfl)) dX8_line_80 ⟨(Nat.le_of_ble_eq_true rfl), (Nat.le_of_ble_eq_true rfl)⟩) hP hD hS hA [0, 1] [2] [1, 2, 0] rfl rfl rfl (by decide) rfl rfl (fun H locs hP hD hS => ?_)
      obtain ⟨v14, hv14, hF⟩ := oB hF
      refine call_v (wr := [(aMn, .inl (K 6, 55, .inl nN))]) (wn := [(aM, .inr (6, [.ref aMn, .ref aMt, .ref aMk, .int mU, .ref aMs, .int mB, .ref aMl, .int v14.1, .ref aMx, .int mH, .int mQ, .int mW, .ref aMd, .int mF, .int mR, .int mD, .int mJ, .int mA, .int (0 : Int32)])), (aMn, .inl (K 6, 55, .inl nN)), (aMl, .inl (K 10, 60, .inl v14.2))]) (va_runV (As := [.int v13.1]) (rest := []) ⟨hx, hb, hml, hown, hts⟩ (c_X8_writes l D K aM aMn aMt aMk aMs aMl aMx aMd mU mB v12.1 mH mQ mW mF mR mD mJ mA (0 : Int32) v12.2 v13.1 v14 hv14 H.size) (cwV 1 hts gX8_line_X8_writes rfl rfl rfl (by decide +kernel) ⟨(Nat.le_of_ble_eq_true rfl), (Nat.le_of_ble_eq_true rfl)⟩) (prV hE hK hP hD hS hA [0, 2] rfl rfl 6 0 rfl rfl rfl) rfl rfl hl.1 rfl (lv_room (Nat.le_of_ble_eq_true rfl)) dX8_line_83 ⟨(Nat.le_of_ble_eq_true rfl), (Nat.le_of_ble_eq_true rfl)⟩) hP hD hS hA [0, 2] [1] [1, 0, 2] rfl rfl rfl (by decide) rfl rfl (fun H locs hP hD hS => ?_)
      refine lv_aload_n hx hb dX8_line_86 rfl (lv_at hl 0 rfl) ?_
      refine lv_bipush (v := (47 : Int32)) hx hb dX8_line_87 (by decide) ?_
      obtain ⟨v15, hv15, hF⟩ := oB hF
      refine call_v (wr := [(aMn, .inl (K 6, 55, .inl nN))]) (wn := [(aM, .inr (6, [.ref aMn, .ref aMt, .ref aMk, .int mU, .ref aMs, .int mB, .ref aMl, .int v15.1, .ref aMx, .int mH, .int mQ, .int mW, .ref aMd, .int mF, .int mR, .int mD, .int mJ, .int mA, .int (0 : Int32)])), (aMn, .inl (K 6, 55, .inl nN)), (aMl, .inl (K 10, 60, .inl v15.2))]) (va_runV (As := [.int (47 : Int32)]) (rest := []) ⟨hx, hb, hml, hown, hts⟩ (c_X8_signs l D K aM aMn aMt aMk aMs aMl aMx aMd mU mB v14.1 mH mQ mW mF mR mD mJ mA (0 : Int32) v14.2 (47 : Int32) v15 hv15 H.size) (cwV 1 hts gX8_line_X8_signs rfl rfl rfl (by decide +kernel) ⟨(Nat.le_of_ble_eq_true rfl), (Nat.le_of_ble_eq_true rfl)⟩) (prV hE hK hP hD hS hA [0, 2] rfl rfl 6 0 rfl rfl rfl) rfl rfl hl.1 rfl (lv_room (Nat.le_of_ble_eq_true rfl)) dX8_line_89 ⟨(Nat.le_of_ble_eq_true rfl), (Nat.le_of_ble_eq_true rfl)⟩) hP hD hS hA [0, 2] [1] [1, 0, 2] rfl rfl rfl (by decide) rfl rfl (fun H locs hP hD hS => ?_)
      refine lv_aload_n hx hb dX8_line_92 rfl (lv_at hl 0 rfl) ?_
      refine lv_aload_n hx hb dX8_line_93 rfl (lv_at hl 0 rfl) ?_
      refine lv_iload_n hx hb dX8_line_94 rfl (lv_at hl 1 rfl) ?_
      refine lv_iconst (v := (3 : Int32)) hx hb dX8_line_95 (by decide) ?_
      obtain ⟨v16, hv16, hF⟩ := oB hF
      refine call_i (wr := [(aMl, .inl (K 10, 60, .inl v15.2))]) (wn := [(aM, .inr (6, [.ref aMn, .ref aMt, .ref aMk, .int mU, .ref aMs, .int mB, .ref aMl, .int v15.1, .ref aMx, .int mH, .int mQ, .int mW, .ref aMd, .int mF, .int mR, .int mD, .int mJ, .int mA, .int (0 : Int32)])), (aMn, .inl (K 6, 55, .inl nN)), (aMl, .inl (K 10, 60, .inl v15.2))]) (va_runV (As := [.int p1, .int (3 : Int32)]) (rest := [.ref aM]) ⟨hx, hb, hml, hown, hts⟩ (c_X8_of l D K aM aMn aMt aMk aMs aMl aMx aMd mU mB v15.1 mH mQ mW mF mR mD mJ mA (0 : Int32) nN p1 (3 : Int32) v16 hv16 H.size) (cwV 2 hts gX8_line_X8_of rfl rfl rfl (by decide +kernel) ⟨(Nat.le_of_ble_eq_true rfl), (Nat.le_of_ble_eq_true rfl)⟩) (prV hE hK hP hD hS hA [0, 1] rfl rfl 6 0 rfl rfl rfl) rfl rfl hl.1 rfl (lv_room (Nat.le_of_ble_eq_true rfl)) dX8_line_96 ⟨(Nat.le_of_ble_eq_true rfl), (Nat.le_of_ble_eq_true rfl)⟩) hP hD hS hA [0, 1] [2] [1, 2, 0] rfl rfl rfl (by decide) rfl rfl (fun H locs hP hD hS => ?_)
      obtain ⟨v17, hv17, hF⟩ := oB hF
      refine call_v (wr := [(aMn, .inl (K 6, 55, .inl nN))]) (wn := [(aM, .inr (6, [.ref aMn, .ref aMt, .ref aMk, .int mU, .ref aMs, .int mB, .ref aMl, .int v17.1, .ref aMx, .int mH, .int mQ, .int mW, .ref aMd, .int mF, .int mR, .int mD, .int mJ, .int mA, .int (0 : Int32)])), (aMn, .inl (K 6, 55, .inl nN)), (aMl, .inl (K 10, 60, .inl v17.2))]) (va_runV (As := [.int v16.1]) (rest := []) ⟨hx, hb, hml, hown, hts⟩ (c_X8_writes l D K aM aMn aMt aMk aMs aMl aMx aMd mU mB v15.1 mH mQ mW mF mR mD mJ mA (0 : Int32) v15.2 v16.1 v17 hv17 H.size) (cwV 1 hts gX8_line_X8_writes rfl rfl rfl (by decide +kernel) ⟨(Nat.le_of_ble_eq_true rfl), (Nat.le_of_ble_eq_true rfl)⟩) (prV hE hK hP hD hS hA [0, 2] rfl rfl 6 0 rfl rfl rfl) rfl rfl hl.1 rfl (lv_room (Nat.le_of_ble_eq_true rfl)) dX8_line_99 ⟨(Nat.le_of_ble_eq_true rfl), (Nat.le_of_ble_eq_true rfl)⟩) hP hD hS hA [0, 2] [1] [1, 0, 2] rfl rfl rfl (by decide) rfl rfl (fun H locs hP hD hS => ?_)
      refine lv_aload_n hx hb dX8_line_102 rfl (lv_at hl 0 rfl) ?_
      refine lv_iload_n hx hb dX8_line_103 rfl (lv_at hl 1 rfl) ?_
      refine lv_iconst (v := (4 : Int32)) hx hb dX8_line_104 (by decide) ?_
      obtain ⟨v18, hv18, hF⟩ := oB hF
      refine call_i (wr := [(aMl, .inl (K 10, 60, .inl v17.2))]) (wn := [(aM, .inr (6, [.ref aMn, .ref aMt, .ref aMk, .int mU, .ref aMs, .int mB, .ref aMl, .int v17.1, .ref aMx, .int mH, .int mQ, .int mW, .ref aMd, .int mF, .int mR, .int mD, .int mJ, .int mA, .int (0 : Int32)])), (aMn, .inl (K 6, 55, .inl nN)), (aMl, .inl (K 10, 60, .inl v17.2))]) (va_runV (As := [.int p1, .int (4 : Int32)]) (rest := []) ⟨hx, hb, hml, hown, hts⟩ (c_X8_of l D K aM aMn aMt aMk aMs aMl aMx aMd mU mB v17.1 mH mQ mW mF mR mD mJ mA (0 : Int32) nN p1 (4 : Int32) v18 hv18 H.size) (cwV 2 hts gX8_line_X8_of rfl rfl rfl (by decide +kernel) ⟨(Nat.le_of_ble_eq_true rfl), (Nat.le_of_ble_eq_true rfl)⟩) (prV hE hK hP hD hS hA [0, 1] rfl rfl 6 0 rfl rfl rfl) rfl rfl hl.1 rfl (lv_room (Nat.le_of_ble_eq_true rfl)) dX8_line_105 ⟨(Nat.le_of_ble_eq_true rfl), (Nat.le_of_ble_eq_true rfl)⟩) hP hD hS hA [0, 1] [2] [1, 2, 0] rfl rfl rfl (by decide) rfl rfl (fun H locs hP hD hS => ?_)
      refine lv_iconst (v := (1 : Int32)) hx hb dX8_line_108 (by decide) ?_
      refine lv_icmp_ne (tgt := 118) hx hb dX8_line_109 (by decide) (fun c19 => ?_) (fun c19 => ?_)
      · have hF := oF c19 hF
        refine lv_aload_n hx hb dX8_line_118 rfl (lv_at hl 0 rfl) ?_
        refine va_get (D := D) (ci := 6) (v := .int v17.1) (C := RX8) (T := TX8) (N := 19) hx hb hts (fun _ h => List.mem_cons_of_mem _ (List.mem_append_left _ (List.mem_append_right _ h))) hown hK hP 0 rfl rfl 7 (by decide) (hts (.fieldLink RX8 209 "BarometerClubModel" "lined" "I") (List.mem_of_getElem? (i := 2) rfl)) (fun _ h9 => h9) rfl dX8_line_119 ?_
        exact fin_i (u := (v17.1, (v17.1, (0 : Int32), v17.2))) hF hx hb hr hlocks hK hP hD hS (Nat.le_of_ble_eq_true rfl) (Nat.le_of_ble_eq_true rfl) dX8_line_122
      · have hF := oT c19 hF
        refine lv_aload_n hx hb dX8_line_112 rfl (lv_at hl 0 rfl) ?_
        refine lv_bipush (v := (33 : Int32)) hx hb dX8_line_113 (by decide) ?_
        obtain ⟨v20, hv20, hF⟩ := oB hF
        refine call_v (wr := [(aMn, .inl (K 6, 55, .inl nN))]) (wn := [(aM, .inr (6, [.ref aMn, .ref aMt, .ref aMk, .int mU, .ref aMs, .int mB, .ref aMl, .int v20.1, .ref aMx, .int mH, .int mQ, .int mW, .ref aMd, .int mF, .int mR, .int mD, .int mJ, .int mA, .int (0 : Int32)])), (aMn, .inl (K 6, 55, .inl nN)), (aMl, .inl (K 10, 60, .inl v20.2))]) (va_runV (As := [.int (33 : Int32)]) (rest := []) ⟨hx, hb, hml, hown, hts⟩ (c_X8_signs l D K aM aMn aMt aMk aMs aMl aMx aMd mU mB v17.1 mH mQ mW mF mR mD mJ mA (0 : Int32) v17.2 (33 : Int32) v20 hv20 H.size) (cwV 1 hts gX8_line_X8_signs rfl rfl rfl (by decide +kernel) ⟨(Nat.le_of_ble_eq_true rfl), (Nat.le_of_ble_eq_true rfl)⟩) (prV hE hK hP hD hS hA [0, 2] rfl rfl 6 0 rfl rfl rfl) rfl rfl hl.1 rfl (lv_room (Nat.le_of_ble_eq_true rfl)) dX8_line_115 ⟨(Nat.le_of_ble_eq_true rfl), (Nat.le_of_ble_eq_true rfl)⟩) hP hD hS hA [0, 2] [1] [1, 0, 2] rfl rfl rfl (by decide) rfl rfl (fun H locs hP hD hS => ?_)
        refine lv_aload_n hx hb dX8_line_118 rfl (lv_at hl 0 rfl) ?_
        refine va_get (D := D) (ci := 6) (v := .int v20.1) (C := RX8) (T := TX8) (N := 19) hx hb hts (fun _ h => List.mem_cons_of_mem _ (List.mem_append_left _ (List.mem_append_right _ h))) hown hK hP 0 rfl rfl 7 (by decide) (hts (.fieldLink RX8 209 "BarometerClubModel" "lined" "I") (List.mem_of_getElem? (i := 2) rfl)) (fun _ h9 => h9) rfl dX8_line_119 ?_
        exact fin_i (u := (v20.1, (v20.1, (0 : Int32), v20.2))) hF hx hb hr hlocks hK hP hD hS (Nat.le_of_ble_eq_true rfl) (Nat.le_of_ble_eq_true rfl) dX8_line_122
    · have hF := oT c11 hF
      refine lv_aload_n hx hb dX8_line_65 rfl (lv_at hl 0 rfl) ?_
      refine va_get (D := D) (ci := 6) (v := .int v9.1) (C := RX8) (T := TX8) (N := 19) hx hb hts (fun _ h => List.mem_cons_of_mem _ (List.mem_append_left _ (List.mem_append_right _ h))) hown hK hP 0 rfl rfl 7 (by decide) (hts (.fieldLink RX8 209 "BarometerClubModel" "lined" "I") (List.mem_of_getElem? (i := 2) rfl)) (fun _ h9 => h9) rfl dX8_line_66 ?_
      exact fin_i (u := (v9.1, (v9.1, (0 : Int32), v9.2))) hF hx hb hr hlocks hK hP hD hS (Nat.le_of_ble_eq_true rfl) (Nat.le_of_ble_eq_true rfl) dX8_line_69
abbrev RM_X8_board : Room := { frames := 15, cells := 0, slots := 0, locals := 469 }
abbrev MC_X8_board : Nat := 0
abbrev MS_X8_board : Nat := 0
abbrev wf_X8_board (K : Nat → ClassId) (aM : Nat) (aMn : Nat) (aMt : Nat) (aMk : Nat) (aMs : Nat) (aMl : Nat) (aMx : Nat) (aMd : Nat) (mU : Int32) (mB : Int32) (mH : Int32) (mQ : Int32) (mW : Int32) (mF : Int32) (mR : Int32) (mD : Int32) (mJ : Int32) (mA : Int32) (nN : Nat → Int32) (v : Int32 × Int32 × Int32 × (Nat → Int32)) : va_W := [(aM, .inr (6, [.ref aMn, .ref aMt, .ref aMk, .int mU, .ref aMs, .int mB, .ref aMl, .int v.2.1, .ref aMx, .int mH, .int mQ, .int mW, .ref aMd, .int mF, .int mR, .int mD, .int mJ, .int mA, .int v.2.2.1])), (aMn, .inl (K 6, 55, .inl nN)), (aMl, .inl (K 10, 60, .inl v.2.2.2))]
set_option maxHeartbeats 4000000 in
set_option maxRecDepth 100000 in
theorem c_X8_board (l : Launch) (D : va_G) (K : Nat → ClassId) (aM : Nat) (aMn : Nat) (aMt : Nat) (aMk : Nat) (aMs : Nat) (aMl : Nat) (aMx : Nat) (aMd : Nat) (mU : Int32) (mB : Int32) (mI : Int32) (mH : Int32) (mQ : Int32) (mW : Int32) (mF : Int32) (mR : Int32) (mD : Int32) (mJ : Int32) (mA : Int32) (mT : Int32) (nN : Nat → Int32) (nL : Nat → Int32)  (v : Int32 × Int32 × Int32 × (Nat → Int32)) (hF : f_X8_board mI mT nN nL = some v) (sz : Nat) :
    (Met l yX8_board wsX8_board RM_X8_board (PC D (TY K) [(aM, .inr (6, [.ref aMn, .ref aMt, .ref aMk, .int mU, .ref aMs, .int mB, .ref aMl, .int mI, .ref aMx, .int mH, .int mQ, .int mW, .ref aMd, .int mF, .int mR, .int mD, .int mJ, .int mA, .int mT])), (aMn, .inl (K 6, 55, .inl nN)), (aMl, .inl (K 10, 60, .inl nL))] [.ref aM] sz) (QI D (TY K) (wf_X8_board K aM aMn aMt aMk aMs aMl aMx aMd mU mB mH mQ mW mF mR mD mJ mA nN) v (va_A [(aM, .inr (6, [.ref aMn, .ref aMt, .ref aMk, .int mU, .ref aMs, .int mB, .ref aMl, .int mI, .ref aMx, .int mH, .int mQ, .int mW, .ref aMd, .int mF, .int mR, .int mD, .int mJ, .int mA, .int mT])), (aMn, .inl (K 6, 55, .inl nN)), (aMl, .inl (K 10, 60, .inl nL))] sz)) MC_X8_board MS_X8_board (va_A [(aM, .inr (6, [.ref aMn, .ref aMt, .ref aMk, .int mU, .ref aMs, .int mB, .ref aMl, .int mI, .ref aMx, .int mH, .int mQ, .int mW, .ref aMd, .int mF, .int mR, .int mD, .int mJ, .int mA, .int mT])), (aMn, .inl (K 6, 55, .inl nN)), (aMl, .inl (K 10, 60, .inl nL))] sz)) := by
  refine pro (Qf := fun A => QI D (TY K) (wf_X8_board K aM aMn aMt aMk aMs aMl aMx aMd mU mB mH mQ mW mF mR mD mJ mA nN) v A) (cc := cX8_board) (maxL := 2) (ret := (some .int)) (by decide +kernel) rfl (Nat.le_of_ble_eq_true rfl) ?_
  intro p e s m args below meth c hx hb hr hts hown hlocks hml hini hK A hA hE hP hD hS ls hl
  have hown : s.vm.findClass RX8 = some m.cls := hown
  have hl : lv_has ls 2 [(0, .ref aM)] := hl
  have loop_12 : ∀ (mT_12 : Int32) (n : Nat) (y12_1 : Int32) (mI_12 : Int32) (nL_12 : Nat → Int32), f_X8_board_L12 nN mT_12 n y12_1 mI_12 nL_12 = some v → ∀ (H : Heap) (locs : List Loc), va_P D vwC7 [(aM, .inr (6, [.ref aMn, .ref aMt, .ref aMk, .int mU, .ref aMs, .int mB, .ref aMl, .int mI_12, .ref aMx, .int mH, .int mQ, .int mW, .ref aMd, .int mF, .int mR, .int mD, .int mJ, .int mA, .int mT_12])), (aMn, .inl (K 6, 55, .inl nN)), (aMl, .inl (K 10, 60, .inl nL_12))] H → va_D A [(aM, .inr (6, [.ref aMn, .ref aMt, .ref aMk, .int mU, .ref aMs, .int mB, .ref aMl, .int mI_12, .ref aMx, .int mH, .int mQ, .int mW, .ref aMd, .int mF, .int mR, .int mD, .int mJ, .int mA, .int mT_12])), (aMn, .inl (K 6, 55, .inl nN)), (aMl, .inl (K 10, 60, .inl nL_12))] → va_S A s.heap H locs → ∀ ls : Array Slot, lv_has ls 2 [(0, .ref aM), (1, .int y12_1)] → W p l e RM_X8_board s m args below meth c H locs 0 0 (MQ below (QI D (TY K) (wf_X8_board K aM aMn aMt aMk aMs aMl aMx aMd mU mB mH mQ mW mF mR mD mJ mA nN) v A) args s MC_X8_board MS_X8_board A) (F0 m 12 ls []) := by
    intro mT_12 n
    induction n with
    | zero =>
      intro y12_1 mI_12 nL_12 hF
      exact nomatch hF
    | succ n ih =>
      intro y12_1 mI_12 nL_12 hF H locs hP hD hS ls hl
      rw [f_X8_board_L12.eq_2] at hF
      refine lv_iload_n hx hb dX8_board_12 rfl (lv_at hl 1 rfl) ?_
      refine lv_bipush (v := (10 : Int32)) hx hb dX8_board_13 (by decide) ?_
      refine lv_icmp_ge (tgt := 50) hx hb dX8_board_15 (by decide) (fun c1 => ?_) (fun c1 => ?_)
      · have hF := oT c1 hF
        refine lv_aload_n hx hb dX8_board_50 rfl (lv_at hl 0 rfl) ?_
        refine va_get (D := D) (ci := 6) (v := .int mI_12) (C := RX8) (T := TX8) (N := 19) hx hb hts (fun _ h => List.mem_cons_of_mem _ (List.mem_append_left _ (List.mem_append_right _ h))) hown hK hP 0 rfl rfl 7 (by decide) (hts (.fieldLink RX8 209 "BarometerClubModel" "lined" "I") (List.mem_of_getElem? (i := 2) rfl)) (fun _ h9 => h9) rfl dX8_board_51 ?_
        exact fin_i (u := (mI_12, (mI_12, mT_12, nL_12))) hF hx hb hr hlocks hK hP hD hS (Nat.le_of_ble_eq_true rfl) (Nat.le_of_ble_eq_true rfl) dX8_board_54
      · have hF := oF c1 hF
        refine lv_aload_n hx hb dX8_board_18 rfl (lv_at hl 0 rfl) ?_
        refine lv_iload_n hx hb dX8_board_19 rfl (lv_at hl 1 rfl) ?_
        obtain ⟨v2, hv2, hF⟩ := oB hF
        refine call_i (wr := [(aMl, .inl (K 10, 60, .inl nL_12))]) (wn := [(aM, .inr (6, [.ref aMn, .ref aMt, .ref aMk, .int mU, .ref aMs, .int mB, .ref aMl, .int mI_12, .ref aMx, .int mH, .int mQ, .int mW, .ref aMd, .int mF, .int mR, .int mD, .int mJ, .int mA, .int mT_12])), (aMn, .inl (K 6, 55, .inl nN)), (aMl, .inl (K 10, 60, .inl nL_12))]) (va_runV (As := [.int y12_1]) (rest := []) ⟨hx, hb, hml, hown, hts⟩ (c_X8_ownerOf l D K aM aMn aMt aMk aMs aMl aMx aMd mU mB mI_12 mH mQ mW mF mR mD mJ mA mT_12 nN y12_1 v2 hv2 H.size) (cwV 1 hts gX8_board_X8_ownerOf rfl rfl rfl (by decide +kernel) ⟨(Nat.le_of_ble_eq_true rfl), (Nat.le_of_ble_eq_true rfl)⟩) (prV hE hK hP hD hS hA [0, 1] rfl rfl 6 0 rfl rfl rfl) rfl rfl hl.1 rfl (lv_room (Nat.le_of_ble_eq_true rfl)) dX8_board_20 ⟨(Nat.le_of_ble_eq_true rfl), (Nat.le_of_ble_eq_true rfl)⟩) hP hD hS hA [0, 1] [2] [1, 2, 0] rfl rfl rfl (by decide) rfl rfl (fun H locs hP hD hS => ?_)
        refine lv_if_ge (tgt := 35) hx hb dX8_board_23 (by decide) (fun c3 => ?_) (fun c3 => ?_)
        · have hF := oT c3 hF
          refine lv_aload_n hx hb dX8_board_35 rfl (lv_at hl 0 rfl) ?_
          refine lv_aload_n hx hb dX8_board_36 rfl (lv_at hl 0 rfl) ?_
          refine lv_iload_n hx hb dX8_board_37 rfl (lv_at hl 1 rfl) ?_
          obtain ⟨v4, hv4, hF⟩ := oB hF
          refine call_i (wr := [(aMl, .inl (K 10, 60, .inl nL_12))]) (wn := [(aM, .inr (6, [.ref aMn, .ref aMt, .ref aMk, .int mU, .ref aMs, .int mB, .ref aMl, .int mI_12, .ref aMx, .int mH, .int mQ, .int mW, .ref aMd, .int mF, .int mR, .int mD, .int mJ, .int mA, .int mT_12])), (aMn, .inl (K 6, 55, .inl nN)), (aMl, .inl (K 10, 60, .inl nL_12))]) (va_runV (As := [.int y12_1]) (rest := [.ref aM]) ⟨hx, hb, hml, hown, hts⟩ (c_X8_ownerOf l D K aM aMn aMt aMk aMs aMl aMx aMd mU mB mI_12 mH mQ mW mF mR mD mJ mA mT_12 nN y12_1 v4 hv4 H.size) (cwV 1 hts gX8_board_X8_ownerOf rfl rfl rfl (by decide +kernel) ⟨(Nat.le_of_ble_eq_true rfl), (Nat.le_of_ble_eq_true rfl)⟩) (prV hE hK hP hD hS hA [0, 1] rfl rfl 6 0 rfl rfl rfl) rfl rfl hl.1 rfl (lv_room (Nat.le_of_ble_eq_true rfl)) dX8_board_38 ⟨(Nat.le_of_ble_eq_true rfl), (Nat.le_of_ble_eq_true rfl)⟩) hP hD hS hA [0, 1] [2] [1, 2, 0] rfl rfl rfl (by decide) rfl rfl (fun H locs hP hD hS => ?_)
          obtain ⟨v5, hv5, hF⟩ := oB hF
          refine call_v (wr := [(aMn, .inl (K 6, 55, .inl nN))]) (wn := [(aM, .inr (6, [.ref aMn, .ref aMt, .ref aMk, .int mU, .ref aMs, .int mB, .ref aMl, .int v5.1, .ref aMx, .int mH, .int mQ, .int mW, .ref aMd, .int mF, .int mR, .int mD, .int mJ, .int mA, .int mT_12])), (aMn, .inl (K 6, 55, .inl nN)), (aMl, .inl (K 10, 60, .inl v5.2))]) (va_runV (As := [.int v4.1]) (rest := []) ⟨hx, hb, hml, hown, hts⟩ (c_X8_writes l D K aM aMn aMt aMk aMs aMl aMx aMd mU mB mI_12 mH mQ mW mF mR mD mJ mA mT_12 nL_12 v4.1 v5 hv5 H.size) (cwV 1 hts gX8_board_X8_writes rfl rfl rfl (by decide +kernel) ⟨(Nat.le_of_ble_eq_true rfl), (Nat.le_of_ble_eq_true rfl)⟩) (prV hE hK hP hD hS hA [0, 2] rfl rfl 6 0 rfl rfl rfl) rfl rfl hl.1 rfl (lv_room (Nat.le_of_ble_eq_true rfl)) dX8_board_41 ⟨(Nat.le_of_ble_eq_true rfl), (Nat.le_of_ble_eq_true rfl)⟩) hP hD hS hA [0, 2] [1] [1, 0, 2] rfl rfl rfl (by decide) rfl rfl (fun H locs hP hD hS => ?_)
          refine lv_iinc (v := y12_1 + (1 : Int32)) (lv' := [(1, .int (y12_1 + (1 : Int32))), (0, .ref aM)]) hx hb dX8_board_44 hl (k := 1) rfl (by first | rfl | decide) (by decide) rfl (fun ls hl => ?_)
          refine lv_goto (tgt := 12) hx hb dX8_board_47 (by decide) ?_
          exact ih (y12_1 + (1 : Int32)) v5.1 v5.2 hF _ _ hP hD hS _ (lv_sub hl [1, 0] rfl)
        · have hF := oF c3 hF
          refine lv_aload_n hx hb dX8_board_26 rfl (lv_at hl 0 rfl) ?_
          refine lv_bipush (v := (46 : Int32)) hx hb dX8_board_27 (by decide) ?_
          obtain ⟨v6, hv6, hF⟩ := oB hF
          refine call_v (wr := [(aMn, .inl (K 6, 55, .inl nN))]) (wn := [(aM, .inr (6, [.ref aMn, .ref aMt, .ref aMk, .int mU, .ref aMs, .int mB, .ref aMl, .int v6.1, .ref aMx, .int mH, .int mQ, .int mW, .ref aMd, .int mF, .int mR, .int mD, .int mJ, .int mA, .int mT_12])), (aMn, .inl (K 6, 55, .inl nN)), (aMl, .inl (K 10, 60, .inl v6.2))]) (va_runV (As := [.int (46 : Int32)]) (rest := []) ⟨hx, hb, hml, hown, hts⟩ (c_X8_signs l D K aM aMn aMt aMk aMs aMl aMx aMd mU mB mI_12 mH mQ mW mF mR mD mJ mA mT_12 nL_12 (46 : Int32) v6 hv6 H.size) (cwV 1 hts gX8_board_X8_signs rfl rfl rfl (by decide +kernel) ⟨(Nat.le_of_ble_eq_true rfl), (Nat.le_of_ble_eq_true rfl)⟩) (prV hE hK hP hD hS hA [0, 2] rfl rfl 6 0 rfl rfl rfl) rfl rfl hl.1 rfl (lv_room (Nat.le_of_ble_eq_true rfl)) dX8_board_29 ⟨(Nat.le_of_ble_eq_true rfl), (Nat.le_of_ble_eq_true rfl)⟩) hP hD hS hA [0, 2] [1] [1, 0, 2] rfl rfl rfl (by decide) rfl rfl (fun H locs hP hD hS => ?_)
          refine lv_goto (tgt := 44) hx hb dX8_board_32 (by decide) ?_
          refine lv_iinc (v := y12_1 + (1 : Int32)) (lv' := [(1, .int (y12_1 + (1 : Int32))), (0, .ref aM)]) hx hb dX8_board_44 hl (k := 1) rfl (by first | rfl | decide) (by decide) rfl (fun ls hl => ?_)
          refine lv_goto (tgt := 12) hx hb dX8_board_47 (by decide) ?_
          exact ih (y12_1 + (1 : Int32)) v6.1 v6.2 hF _ _ hP hD hS _ (lv_sub hl [1, 0] rfl)
  rw [f_X8_board] at hF
  refine lv_aload_n hx hb dX8_board_0 rfl (lv_at hl 0 rfl) ?_
  refine lv_iconst (v := (0 : Int32)) hx hb dX8_board_1 (by decide) ?_
  refine va_put (D := D) (ci := 6) (v := .int (0 : Int32)) (ty := .int) (C := RX8) (T := TX8) (N := 19) hx hb hts (fun _ h => List.mem_cons_of_mem _ (List.mem_append_left _ (List.mem_append_right _ h))) tyX8 tyX8_ok nmX8 hown hK hP hD hS 0 rfl rfl 18 (by decide) (hts (.fieldLink RX8 36 "BarometerClubModel" "thrown" "I") (List.mem_of_getElem? (i := 1) rfl)) (fun _ h9 => h9) rfl (by decide +kernel) rfl rfl (Nat.le_of_ble_eq_true rfl) dX8_board_2 (fun H locs hP hD hS => ?_)
  have hP : va_P D vwC7 [(aM, .inr (6, [.ref aMn, .ref aMt, .ref aMk, .int mU, .ref aMs, .int mB, .ref aMl, .int mI, .ref aMx, .int mH, .int mQ, .int mW, .ref aMd, .int mF, .int mR, .int mD, .int mJ, .int mA, .int (0 : Int32)])), (aMn, .inl (K 6, 55, .inl nN)), (aMl, .inl (K 10, 60, .inl nL))] H := hP
  have hD : va_D A [(aM, .inr (6, [.ref aMn, .ref aMt, .ref aMk, .int mU, .ref aMs, .int mB, .ref aMl, .int mI, .ref aMx, .int mH, .int mQ, .int mW, .ref aMd, .int mF, .int mR, .int mD, .int mJ, .int mA, .int (0 : Int32)])), (aMn, .inl (K 6, 55, .inl nN)), (aMl, .inl (K 10, 60, .inl nL))] := hD
  refine lv_aload_n hx hb dX8_board_5 rfl (lv_at hl 0 rfl) ?_
  refine lv_iconst (v := (0 : Int32)) hx hb dX8_board_6 (by decide) ?_
  refine va_put (D := D) (ci := 6) (v := .int (0 : Int32)) (ty := .int) (C := RX8) (T := TX8) (N := 19) hx hb hts (fun _ h => List.mem_cons_of_mem _ (List.mem_append_left _ (List.mem_append_right _ h))) tyX8 tyX8_ok nmX8 hown hK hP hD hS 0 rfl rfl 7 (by decide) (hts (.fieldLink RX8 209 "BarometerClubModel" "lined" "I") (List.mem_of_getElem? (i := 2) rfl)) (fun _ h9 => h9) rfl (by decide +kernel) rfl rfl (Nat.le_of_ble_eq_true rfl) dX8_board_7 (fun H locs hP hD hS => ?_)
  have hP : va_P D vwC7 [(aM, .inr (6, [.ref aMn, .ref aMt, .ref aMk, .int mU, .ref aMs, .int mB, .ref aMl, .int (0 : Int32), .ref aMx, .int mH, .int mQ, .int mW, .ref aMd, .int mF, .int mR, .int mD, .int mJ, .int mA, .int (0 : Int32)])), (aMn, .inl (K 6, 55, .inl nN)), (aMl, .inl (K 10, 60, .inl nL))] H := hP
  have hD : va_D A [(aM, .inr (6, [.ref aMn, .ref aMt, .ref aMk, .int mU, .ref aMs, .int mB, .ref aMl, .int (0 : Int32), .ref aMx, .int mH, .int mQ, .int mW, .ref aMd, .int mF, .int mR, .int mD, .int mJ, .int mA, .int (0 : Int32)])), (aMn, .inl (K 6, 55, .inl nN)), (aMl, .inl (K 10, 60, .inl nL))] := hD
  refine lv_iconst (v := (0 : Int32)) hx hb dX8_board_10 (by decide) ?_
  refine lv_istore_n (lv' := [(1, .int (0 : Int32)), (0, .ref aM)]) hx hb dX8_board_11 rfl hl (by decide) rfl (fun ls hl => ?_)
  exact loop_12 (0 : Int32) FU (0 : Int32) (0 : Int32) nL hF _ _ hP hD hS _ (lv_sub hl [1, 0] rfl)
abbrev RM_X8_character : Room := { frames := 1, cells := 0, slots := 0, locals := 22 }
abbrev MC_X8_character : Nat := 0
abbrev MS_X8_character : Nat := 0
abbrev wf_X8_character (K : Nat → ClassId) (aM : Nat) (aMn : Nat) (aMt : Nat) (aMk : Nat) (aMs : Nat) (aMl : Nat) (aMx : Nat) (aMd : Nat) (mU : Int32) (mB : Int32) (mI : Int32) (mH : Int32) (mQ : Int32) (mW : Int32) (mF : Int32) (mR : Int32) (mD : Int32) (mJ : Int32) (mA : Int32) (nL : Nat → Int32) (v : Int32 × Int32) : va_W := [(aM, .inr (6, [.ref aMn, .ref aMt, .ref aMk, .int mU, .ref aMs, .int mB, .ref aMl, .int mI, .ref aMx, .int mH, .int mQ, .int mW, .ref aMd, .int mF, .int mR, .int mD, .int mJ, .int mA, .int v.2])), (aMl, .inl (K 10, 60, .inl nL))]
set_option maxHeartbeats 4000000 in
set_option maxRecDepth 100000 in
theorem c_X8_character (l : Launch) (D : va_G) (K : Nat → ClassId) (aM : Nat) (aMn : Nat) (aMt : Nat) (aMk : Nat) (aMs : Nat) (aMl : Nat) (aMx : Nat) (aMd : Nat) (mU : Int32) (mB : Int32) (mI : Int32) (mH : Int32) (mQ : Int32) (mW : Int32) (mF : Int32) (mR : Int32) (mD : Int32) (mJ : Int32) (mA : Int32) (mT : Int32) (nL : Nat → Int32) (p1 : Int32) (v : Int32 × Int32) (hF : f_X8_character mI mT nL p1 = some v) (sz : Nat) :
    (Met l yX8_character wsX8_character RM_X8_character (PC D (TY K) [(aM, .inr (6, [.ref aMn, .ref aMt, .ref aMk, .int mU, .ref aMs, .int mB, .ref aMl, .int mI, .ref aMx, .int mH, .int mQ, .int mW, .ref aMd, .int mF, .int mR, .int mD, .int mJ, .int mA, .int mT])), (aMl, .inl (K 10, 60, .inl nL))] [.ref aM, .int p1] sz) (QI D (TY K) (wf_X8_character K aM aMn aMt aMk aMs aMl aMx aMd mU mB mI mH mQ mW mF mR mD mJ mA nL) v (va_A [(aM, .inr (6, [.ref aMn, .ref aMt, .ref aMk, .int mU, .ref aMs, .int mB, .ref aMl, .int mI, .ref aMx, .int mH, .int mQ, .int mW, .ref aMd, .int mF, .int mR, .int mD, .int mJ, .int mA, .int mT])), (aMl, .inl (K 10, 60, .inl nL))] sz)) MC_X8_character MS_X8_character (va_A [(aM, .inr (6, [.ref aMn, .ref aMt, .ref aMk, .int mU, .ref aMs, .int mB, .ref aMl, .int mI, .ref aMx, .int mH, .int mQ, .int mW, .ref aMd, .int mF, .int mR, .int mD, .int mJ, .int mA, .int mT])), (aMl, .inl (K 10, 60, .inl nL))] sz)) := by
  refine pro (Qf := fun A => QI D (TY K) (wf_X8_character K aM aMn aMt aMk aMs aMl aMx aMd mU mB mI mH mQ mW mF mR mD mJ mA nL) v A) (cc := cX8_character) (maxL := 2) (ret := (some .char)) (by decide +kernel) rfl (Nat.le_of_ble_eq_true rfl) ?_
  intro p e s m args below meth c hx hb hr hts hown hlocks hml hini hK A hA hE hP hD hS ls hl
  have hown : s.vm.findClass RX8 = some m.cls := hown
  have hl : lv_has ls 2 [(0, .ref aM), (1, .int p1)] := hl
  rw [f_X8_character] at hF
  refine lv_aload_n hx hb dX8_character_0 rfl (lv_at hl 0 rfl) ?_
  refine lv_iload_n hx hb dX8_character_1 rfl (lv_at hl 1 rfl) ?_
  refine lv_iconst (v := (0 : Int32)) hx hb dX8_character_2 (by decide) ?_
  refine lv_aload_n hx hb dX8_character_3 rfl (lv_at hl 0 rfl) ?_
  refine va_get (D := D) (ci := 6) (v := .int mI) (C := RX8) (T := TX8) (N := 19) hx hb hts (fun _ h => List.mem_cons_of_mem _ (List.mem_append_left _ (List.mem_append_right _ h))) hown hK hP 0 rfl rfl 7 (by decide) (hts (.fieldLink RX8 209 "BarometerClubModel" "lined" "I") (List.mem_of_getElem? (i := 1) rfl)) (fun _ h9 => h9) rfl dX8_character_4 ?_
  refine lv_iconst (v := (1 : Int32)) hx hb dX8_character_7 (by decide) ?_
  refine lv_isub hx hb dX8_character_8 ?_
  obtain ⟨v1, hv1, hF⟩ := oB hF
  refine call_i (wr := [(aM, .inr (6, [.ref aMn, .ref aMt, .ref aMk, .int mU, .ref aMs, .int mB, .ref aMl, .int mI, .ref aMx, .int mH, .int mQ, .int mW, .ref aMd, .int mF, .int mR, .int mD, .int mJ, .int mA, .int mT])), (aMl, .inl (K 10, 60, .inl nL))]) (wn := [(aM, .inr (6, [.ref aMn, .ref aMt, .ref aMk, .int mU, .ref aMs, .int mB, .ref aMl, .int mI, .ref aMx, .int mH, .int mQ, .int mW, .ref aMd, .int mF, .int mR, .int mD, .int mJ, .int mA, .int mT])), (aMl, .inl (K 10, 60, .inl nL))]) (va_runS (As := [.int p1, .int (0 : Int32), .int (mI - (1 : Int32))]) (rest := [.ref aM]) ⟨hx, hb, hml, hown, hts⟩ (c_X8_in l D K p1 (0 : Int32) (mI - (1 : Int32)) v1 hv1 s.heap.size) (va_cwS 3 hts gX8_character_X8_in rfl rfl rfl (by decide +kernel) ⟨(Nat.le_of_ble_eq_true rfl), (Nat.le_of_ble_eq_true rfl)⟩) (prS hE hK hP hD hS hA [] rfl rfl) rfl rfl hl.1 rfl (lv_room (Nat.le_of_ble_eq_true rfl)) dX8_character_9 ⟨(Nat.le_of_ble_eq_true rfl), (Nat.le_of_ble_eq_true rfl)⟩) hP hD hS hA [] [0, 1] [0, 1] rfl rfl rfl (by decide) rfl rfl (fun H locs hP hD hS => ?_)
  refine lv_if_eq (tgt := 19) hx hb dX8_character_12 (by decide) (fun c2 => ?_) (fun c2 => ?_)
  · have hF := oT c2 hF
    refine lv_iconst (v := (1 : Int32)) hx hb dX8_character_19 (by decide) ?_
    refine va_put (D := D) (ci := 6) (v := .int (1 : Int32)) (ty := .int) (C := RX8) (T := TX8) (N := 19) hx hb hts (fun _ h => List.mem_cons_of_mem _ (List.mem_append_left _ (List.mem_append_right _ h))) tyX8 tyX8_ok nmX8 hown hK hP hD hS 0 rfl rfl 18 (by decide) (hts (.fieldLink RX8 36 "BarometerClubModel" "thrown" "I") (List.mem_of_getElem? (i := 2) rfl)) (fun _ h9 => h9) rfl (by decide +kernel) rfl rfl (Nat.le_of_ble_eq_true rfl) dX8_character_20 (fun H locs hP hD hS => ?_)
    have hP : va_P D vwC7 [(aM, .inr (6, [.ref aMn, .ref aMt, .ref aMk, .int mU, .ref aMs, .int mB, .ref aMl, .int mI, .ref aMx, .int mH, .int mQ, .int mW, .ref aMd, .int mF, .int mR, .int mD, .int mJ, .int mA, .int (1 : Int32)])), (aMl, .inl (K 10, 60, .inl nL))] H := hP
    have hD : va_D A [(aM, .inr (6, [.ref aMn, .ref aMt, .ref aMk, .int mU, .ref aMs, .int mB, .ref aMl, .int mI, .ref aMx, .int mH, .int mQ, .int mW, .ref aMd, .int mF, .int mR, .int mD, .int mJ, .int mA, .int (1 : Int32)])), (aMl, .inl (K 10, 60, .inl nL))] := hD
    refine lv_aload_n hx hb dX8_character_23 rfl (lv_at hl 0 rfl) ?_
    refine va_get (D := D) (ci := 6) (v := .int (1 : Int32)) (C := RX8) (T := TX8) (N := 19) hx hb hts (fun _ h => List.mem_cons_of_mem _ (List.mem_append_left _ (List.mem_append_right _ h))) hown hK hP 0 rfl rfl 18 (by decide) (hts (.fieldLink RX8 36 "BarometerClubModel" "thrown" "I") (List.mem_of_getElem? (i := 2) rfl)) (fun _ h9 => h9) rfl dX8_character_24 ?_
    refine lv_if_ne (tgt := 39) hx hb dX8_character_27 (by decide) (fun _ => ?_) (fun c9 => absurd c9 (by decide))
    refine lv_bipush (v := (97 : Int32)) hx hb dX8_character_39 (by decide) ?_
    exact fin_z (u := ((97 : Int32), (1 : Int32))) hF rfl hx hb hr hlocks hK hP hD hS (Nat.le_of_ble_eq_true rfl) (Nat.le_of_ble_eq_true rfl) dX8_character_41
  · have hF := oF c2 hF
    refine lv_iconst (v := (0 : Int32)) hx hb dX8_character_15 (by decide) ?_
    refine lv_goto (tgt := 20) hx hb dX8_character_16 (by decide) ?_
    refine va_put (D := D) (ci := 6) (v := .int (0 : Int32)) (ty := .int) (C := RX8) (T := TX8) (N := 19) hx hb hts (fun _ h => List.mem_cons_of_mem _ (List.mem_append_left _ (List.mem_append_right _ h))) tyX8 tyX8_ok nmX8 hown hK hP hD hS 0 rfl rfl 18 (by decide) (hts (.fieldLink RX8 36 "BarometerClubModel" "thrown" "I") (List.mem_of_getElem? (i := 2) rfl)) (fun _ h9 => h9) rfl (by decide +kernel) rfl rfl (Nat.le_of_ble_eq_true rfl) dX8_character_20 (fun H locs hP hD hS => ?_)
    have hP : va_P D vwC7 [(aM, .inr (6, [.ref aMn, .ref aMt, .ref aMk, .int mU, .ref aMs, .int mB, .ref aMl, .int mI, .ref aMx, .int mH, .int mQ, .int mW, .ref aMd, .int mF, .int mR, .int mD, .int mJ, .int mA, .int (0 : Int32)])), (aMl, .inl (K 10, 60, .inl nL))] H := hP
    have hD : va_D A [(aM, .inr (6, [.ref aMn, .ref aMt, .ref aMk, .int mU, .ref aMs, .int mB, .ref aMl, .int mI, .ref aMx, .int mH, .int mQ, .int mW, .ref aMd, .int mF, .int mR, .int mD, .int mJ, .int mA, .int (0 : Int32)])), (aMl, .inl (K 10, 60, .inl nL))] := hD
    refine lv_aload_n hx hb dX8_character_23 rfl (lv_at hl 0 rfl) ?_
    refine va_get (D := D) (ci := 6) (v := .int (0 : Int32)) (C := RX8) (T := TX8) (N := 19) hx hb hts (fun _ h => List.mem_cons_of_mem _ (List.mem_append_left _ (List.mem_append_right _ h))) hown hK hP 0 rfl rfl 18 (by decide) (hts (.fieldLink RX8 36 "BarometerClubModel" "thrown" "I") (List.mem_of_getElem? (i := 2) rfl)) (fun _ h9 => h9) rfl dX8_character_24 ?_
    refine lv_if_ne (tgt := 39) hx hb dX8_character_27 (by decide) (fun c9 => absurd (by decide) c9) (fun _ => ?_)
    refine lv_aload_n hx hb dX8_character_30 rfl (lv_at hl 0 rfl) ?_
    refine va_get (D := D) (ci := 6) (v := .ref aMl) (C := RX8) (T := TX8) (N := 19) hx hb hts (fun _ h => List.mem_cons_of_mem _ (List.mem_append_left _ (List.mem_append_right _ h))) hown hK hP 0 rfl rfl 6 (by decide) (hts (.fieldLink RX8 22 "BarometerClubModel" "line" "[C") (List.mem_of_getElem? (i := 3) rfl)) (fun _ h9 => h9) rfl dX8_character_31 ?_
    refine lv_iload_n hx hb dX8_character_34 rfl (lv_at hl 1 rfl) ?_
    obtain ⟨g5, hF⟩ := oG hF
    refine va_cald hx hb hK hP 1 10 rfl rfl (inB_in g5) dX8_character_35 ?_
    refine lv_goto (tgt := 41) hx hb dX8_character_36 (by decide) ?_
    obtain ⟨g6, hF⟩ := oG hF
    exact fin_z (u := (nL p1.toNatClampNeg, (0 : Int32))) hF (okN_n g6) hx hb hr hlocks hK hP hD hS (Nat.le_of_ble_eq_true rfl) (Nat.le_of_ble_eq_true rfl) dX8_character_41
abbrev RM_X8_coins : Room := { frames := 1, cells := 0, slots := 0, locals := 22 }
abbrev MC_X8_coins : Nat := 0
abbrev MS_X8_coins : Nat := 0
abbrev wf_X8_coins (K : Nat → ClassId) (aM : Nat) (aMn : Nat) (aMt : Nat) (aMk : Nat) (aMs : Nat) (aMl : Nat) (aMx : Nat) (aMd : Nat) (mU : Int32) (mB : Int32) (mI : Int32) (mH : Int32) (mQ : Int32) (mW : Int32) (mF : Int32) (mR : Int32) (mD : Int32) (mJ : Int32) (mA : Int32) (mT : Int32) (nN : Nat → Int32) (v : Int32 × Unit) : va_W := [(aM, .inr (6, [.ref aMn, .ref aMt, .ref aMk, .int mU, .ref aMs, .int mB, .ref aMl, .int mI, .ref aMx, .int mH, .int mQ, .int mW, .ref aMd, .int mF, .int mR, .int mD, .int mJ, .int mA, .int mT])), (aMn, .inl (K 6, 55, .inl nN))]
set_option maxHeartbeats 4000000 in
set_option maxRecDepth 100000 in
theorem c_X8_coins (l : Launch) (D : va_G) (K : Nat → ClassId) (aM : Nat) (aMn : Nat) (aMt : Nat) (aMk : Nat) (aMs : Nat) (aMl : Nat) (aMx : Nat) (aMd : Nat) (mU : Int32) (mB : Int32) (mI : Int32) (mH : Int32) (mQ : Int32) (mW : Int32) (mF : Int32) (mR : Int32) (mD : Int32) (mJ : Int32) (mA : Int32) (mT : Int32) (nN : Nat → Int32)  (v : Int32 × Unit) (hF : f_X8_coins nN = some v) (sz : Nat) :
    (Met l yX8_coins wsX8_coins RM_X8_coins (PC D (TY K) [(aM, .inr (6, [.ref aMn, .ref aMt, .ref aMk, .int mU, .ref aMs, .int mB, .ref aMl, .int mI, .ref aMx, .int mH, .int mQ, .int mW, .ref aMd, .int mF, .int mR, .int mD, .int mJ, .int mA, .int mT])), (aMn, .inl (K 6, 55, .inl nN))] [.ref aM] sz) (QI D (TY K) (wf_X8_coins K aM aMn aMt aMk aMs aMl aMx aMd mU mB mI mH mQ mW mF mR mD mJ mA mT nN) v (va_A [(aM, .inr (6, [.ref aMn, .ref aMt, .ref aMk, .int mU, .ref aMs, .int mB, .ref aMl, .int mI, .ref aMx, .int mH, .int mQ, .int mW, .ref aMd, .int mF, .int mR, .int mD, .int mJ, .int mA, .int mT])), (aMn, .inl (K 6, 55, .inl nN))] sz)) MC_X8_coins MS_X8_coins (va_A [(aM, .inr (6, [.ref aMn, .ref aMt, .ref aMk, .int mU, .ref aMs, .int mB, .ref aMl, .int mI, .ref aMx, .int mH, .int mQ, .int mW, .ref aMd, .int mF, .int mR, .int mD, .int mJ, .int mA, .int mT])), (aMn, .inl (K 6, 55, .inl nN))] sz)) := by
  refine pro (Qf := fun A => QI D (TY K) (wf_X8_coins K aM aMn aMt aMk aMs aMl aMx aMd mU mB mI mH mQ mW mF mR mD mJ mA mT nN) v A) (cc := cX8_coins) (maxL := 3) (ret := (some .int)) (by decide +kernel) rfl (Nat.le_of_ble_eq_true rfl) ?_
  intro p e s m args below meth c hx hb hr hts hown hlocks hml hini hK A hA hE hP hD hS ls hl
  have hown : s.vm.findClass RX8 = some m.cls := hown
  have hl : lv_has ls 3 [(0, .ref aM)] := hl
  have loop_4 : ∀  (n : Nat) (y4_1 : Int32) (y4_2 : Int32), f_X8_coins_L4 nN n y4_1 y4_2 = some v → ∀ (H : Heap) (locs : List Loc), va_P D vwC7 [(aM, .inr (6, [.ref aMn, .ref aMt, .ref aMk, .int mU, .ref aMs, .int mB, .ref aMl, .int mI, .ref aMx, .int mH, .int mQ, .int mW, .ref aMd, .int mF, .int mR, .int mD, .int mJ, .int mA, .int mT])), (aMn, .inl (K 6, 55, .inl nN))] H → va_D A [(aM, .inr (6, [.ref aMn, .ref aMt, .ref aMk, .int mU, .ref aMs, .int mB, .ref aMl, .int mI, .ref aMx, .int mH, .int mQ, .int mW, .ref aMd, .int mF, .int mR, .int mD, .int mJ, .int mA, .int mT])), (aMn, .inl (K 6, 55, .inl nN))] → va_S A s.heap H locs → ∀ ls : Array Slot, lv_has ls 3 [(0, .ref aM), (1, .int y4_1), (2, .int y4_2)] → W p l e RM_X8_coins s m args below meth c H locs 0 0 (MQ below (QI D (TY K) (wf_X8_coins K aM aMn aMt aMk aMs aMl aMx aMd mU mB mI mH mQ mW mF mR mD mJ mA mT nN) v A) args s MC_X8_coins MS_X8_coins A) (F0 m 4 ls []) := by
    intro  n
    induction n with
    | zero =>
      intro y4_1 y4_2 hF
      exact nomatch hF
    | succ n ih =>
      intro y4_1 y4_2 hF H locs hP hD hS ls hl
      rw [f_X8_coins_L4.eq_2] at hF
      refine lv_iload_n hx hb dX8_coins_4 rfl (lv_at hl 2 rfl) ?_
      refine lv_aload_n hx hb dX8_coins_5 rfl (lv_at hl 0 rfl) ?_
      refine va_get (D := D) (ci := 6) (v := .ref aMn) (C := RX8) (T := TX8) (N := 19) hx hb hts (fun _ h => List.mem_cons_of_mem _ (List.mem_append_left _ (List.mem_append_right _ h))) hown hK hP 0 rfl rfl 0 (by decide) (hts (.fieldLink RX8 9 "BarometerClubModel" "now" "[I") (List.mem_of_getElem? (i := 1) rfl)) (fun _ h9 => h9) rfl dX8_coins_6 ?_
      refine lv_iconst (v := (0 : Int32)) hx hb dX8_coins_9 (by decide) ?_
      refine va_iald hx hb hK hP 1 6 rfl rfl (inB_in (by decide : inB (0 : Int32) 55 = true)) dX8_coins_10 ?_
      refine lv_icmp_ge (tgt := 29) hx hb dX8_coins_11 (by decide) (fun c1 => ?_) (fun c1 => ?_)
      · have hF := oT c1 hF
        refine lv_iload_n hx hb dX8_coins_29 rfl (lv_at hl 1 rfl) ?_
        exact fin_i (u := (y4_1, ())) hF hx hb hr hlocks hK hP hD hS (Nat.le_of_ble_eq_true rfl) (Nat.le_of_ble_eq_true rfl) dX8_coins_30
      · have hF := oF c1 hF
        refine lv_iload_n hx hb dX8_coins_14 rfl (lv_at hl 1 rfl) ?_
        refine lv_aload_n hx hb dX8_coins_15 rfl (lv_at hl 0 rfl) ?_
        refine lv_iload_n hx hb dX8_coins_16 rfl (lv_at hl 2 rfl) ?_
        refine lv_iconst (v := (0 : Int32)) hx hb dX8_coins_17 (by decide) ?_
        obtain ⟨v2, hv2, hF⟩ := oB hF
        refine call_i (wr := []) (wn := [(aM, .inr (6, [.ref aMn, .ref aMt, .ref aMk, .int mU, .ref aMs, .int mB, .ref aMl, .int mI, .ref aMx, .int mH, .int mQ, .int mW, .ref aMd, .int mF, .int mR, .int mD, .int mJ, .int mA, .int mT])), (aMn, .inl (K 6, 55, .inl nN))]) (va_runV (As := [.int y4_2, .int (0 : Int32)]) (rest := [.int y4_1]) ⟨hx, hb, hml, hown, hts⟩ (c_X8_of l D K aM aMn aMt aMk aMs aMl aMx aMd mU mB mI mH mQ mW mF mR mD mJ mA mT nN y4_2 (0 : Int32) v2 hv2 H.size) (cwV 2 hts gX8_coins_X8_of rfl rfl rfl (by decide +kernel) ⟨(Nat.le_of_ble_eq_true rfl), (Nat.le_of_ble_eq_true rfl)⟩) (prV hE hK hP hD hS hA [0, 1] rfl rfl 6 0 rfl rfl rfl) rfl rfl hl.1 rfl (lv_room (Nat.le_of_ble_eq_true rfl)) dX8_coins_18 ⟨(Nat.le_of_ble_eq_true rfl), (Nat.le_of_ble_eq_true rfl)⟩) hP hD hS hA [0, 1] [] [0, 1] rfl rfl rfl (by decide) rfl rfl (fun H locs hP hD hS => ?_)
        refine lv_iadd hx hb dX8_coins_21 ?_
        refine lv_istore_n (lv' := [(1, .int (y4_1 + v2.1)), (0, .ref aM), (2, .int y4_2)]) hx hb dX8_coins_22 rfl hl (by decide) rfl (fun ls hl => ?_)
        refine lv_iinc (v := y4_2 + (1 : Int32)) (lv' := [(2, .int (y4_2 + (1 : Int32))), (1, .int (y4_1 + v2.1)), (0, .ref aM)]) hx hb dX8_coins_23 hl (k := 2) rfl (by first | rfl | decide) (by decide) rfl (fun ls hl => ?_)
        refine lv_goto (tgt := 4) hx hb dX8_coins_26 (by decide) ?_
        exact ih (y4_1 + v2.1) (y4_2 + (1 : Int32)) hF _ _ hP hD hS _ (lv_sub hl [2, 1, 0] rfl)
  rw [f_X8_coins] at hF
  refine lv_iconst (v := (0 : Int32)) hx hb dX8_coins_0 (by decide) ?_
  refine lv_istore_n (lv' := [(1, .int (0 : Int32)), (0, .ref aM)]) hx hb dX8_coins_1 rfl hl (by decide) rfl (fun ls hl => ?_)
  refine lv_iconst (v := (0 : Int32)) hx hb dX8_coins_2 (by decide) ?_
  refine lv_istore_n (lv' := [(2, .int (0 : Int32)), (1, .int (0 : Int32)), (0, .ref aM)]) hx hb dX8_coins_3 rfl hl (by decide) rfl (fun ls hl => ?_)
  exact loop_4  FU (0 : Int32) (0 : Int32) hF _ _ hP hD hS _ (lv_sub hl [2, 1, 0] rfl)
abbrev RM_X8_meanCoins : Room := { frames := 2, cells := 0, slots := 0, locals := 44 }
abbrev MC_X8_meanCoins : Nat := 0
abbrev MS_X8_meanCoins : Nat := 0
abbrev wf_X8_meanCoins (K : Nat → ClassId) (aM : Nat) (aMn : Nat) (aMt : Nat) (aMk : Nat) (aMs : Nat) (aMl : Nat) (aMx : Nat) (aMd : Nat) (mU : Int32) (mB : Int32) (mI : Int32) (mH : Int32) (mQ : Int32) (mW : Int32) (mF : Int32) (mR : Int32) (mD : Int32) (mJ : Int32) (mA : Int32) (nN : Nat → Int32) (v : UInt64 × Int32) : va_W := [(aM, .inr (6, [.ref aMn, .ref aMt, .ref aMk, .int mU, .ref aMs, .int mB, .ref aMl, .int mI, .ref aMx, .int mH, .int mQ, .int mW, .ref aMd, .int mF, .int mR, .int mD, .int mJ, .int mA, .int v.2])), (aMn, .inl (K 6, 55, .inl nN))]
set_option maxHeartbeats 4000000 in
set_option maxRecDepth 100000 in
theorem c_X8_meanCoins (l : Launch) (D : va_G) (K : Nat → ClassId) (aM : Nat) (aMn : Nat) (aMt : Nat) (aMk : Nat) (aMs : Nat) (aMl : Nat) (aMx : Nat) (aMd : Nat) (mU : Int32) (mB : Int32) (mI : Int32) (mH : Int32) (mQ : Int32) (mW : Int32) (mF : Int32) (mR : Int32) (mD : Int32) (mJ : Int32) (mA : Int32) (mT : Int32) (nN : Nat → Int32)  (v : UInt64 × Int32) (hF : f_X8_meanCoins mT nN = some v) (sz : Nat) :
    (Met l yX8_meanCoins wsX8_meanCoins RM_X8_meanCoins (PC D (TY K) [(aM, .inr (6, [.ref aMn, .ref aMt, .ref aMk, .int mU, .ref aMs, .int mB, .ref aMl, .int mI, .ref aMx, .int mH, .int mQ, .int mW, .ref aMd, .int mF, .int mR, .int mD, .int mJ, .int mA, .int mT])), (aMn, .inl (K 6, 55, .inl nN))] [.ref aM] sz) (QD D (TY K) (wf_X8_meanCoins K aM aMn aMt aMk aMs aMl aMx aMd mU mB mI mH mQ mW mF mR mD mJ mA nN) v (va_A [(aM, .inr (6, [.ref aMn, .ref aMt, .ref aMk, .int mU, .ref aMs, .int mB, .ref aMl, .int mI, .ref aMx, .int mH, .int mQ, .int mW, .ref aMd, .int mF, .int mR, .int mD, .int mJ, .int mA, .int mT])), (aMn, .inl (K 6, 55, .inl nN))] sz)) MC_X8_meanCoins MS_X8_meanCoins (va_A [(aM, .inr (6, [.ref aMn, .ref aMt, .ref aMk, .int mU, .ref aMs, .int mB, .ref aMl, .int mI, .ref aMx, .int mH, .int mQ, .int mW, .ref aMd, .int mF, .int mR, .int mD, .int mJ, .int mA, .int mT])), (aMn, .inl (K 6, 55, .inl nN))] sz)) := by
  refine pro (Qf := fun A => QD D (TY K) (wf_X8_meanCoins K aM aMn aMt aMk aMs aMl aMx aMd mU mB mI mH mQ mW mF mR mD mJ mA nN) v A) (cc := cX8_meanCoins) (maxL := 1) (ret := (some .double)) (by decide +kernel) rfl (Nat.le_of_ble_eq_true rfl) ?_
  intro p e s m args below meth c hx hb hr hts hown hlocks hml hini hK A hA hE hP hD hS ls hl
  have hown : s.vm.findClass RX8 = some m.cls := hown
  have hl : lv_has ls 1 [(0, .ref aM)] := hl
  rw [f_X8_meanCoins] at hF
  refine lv_aload_n hx hb dX8_meanCoins_0 rfl (lv_at hl 0 rfl) ?_
  refine lv_iconst (v := (0 : Int32)) hx hb dX8_meanCoins_1 (by decide) ?_
  refine va_put (D := D) (ci := 6) (v := .int (0 : Int32)) (ty := .int) (C := RX8) (T := TX8) (N := 19) hx hb hts (fun _ h => List.mem_cons_of_mem _ (List.mem_append_left _ (List.mem_append_right _ h))) tyX8 tyX8_ok nmX8 hown hK hP hD hS 0 rfl rfl 18 (by decide) (hts (.fieldLink RX8 36 "BarometerClubModel" "thrown" "I") (List.mem_of_getElem? (i := 1) rfl)) (fun _ h9 => h9) rfl (by decide +kernel) rfl rfl (Nat.le_of_ble_eq_true rfl) dX8_meanCoins_2 (fun H locs hP hD hS => ?_)
  have hP : va_P D vwC7 [(aM, .inr (6, [.ref aMn, .ref aMt, .ref aMk, .int mU, .ref aMs, .int mB, .ref aMl, .int mI, .ref aMx, .int mH, .int mQ, .int mW, .ref aMd, .int mF, .int mR, .int mD, .int mJ, .int mA, .int (0 : Int32)])), (aMn, .inl (K 6, 55, .inl nN))] H := hP
  have hD : va_D A [(aM, .inr (6, [.ref aMn, .ref aMt, .ref aMk, .int mU, .ref aMs, .int mB, .ref aMl, .int mI, .ref aMx, .int mH, .int mQ, .int mW, .ref aMd, .int mF, .int mR, .int mD, .int mJ, .int mA, .int (0 : Int32)])), (aMn, .inl (K 6, 55, .inl nN))] := hD
  refine lv_aload_n hx hb dX8_meanCoins_5 rfl (lv_at hl 0 rfl) ?_
  refine va_get (D := D) (ci := 6) (v := .ref aMn) (C := RX8) (T := TX8) (N := 19) hx hb hts (fun _ h => List.mem_cons_of_mem _ (List.mem_append_left _ (List.mem_append_right _ h))) hown hK hP 0 rfl rfl 0 (by decide) (hts (.fieldLink RX8 9 "BarometerClubModel" "now" "[I") (List.mem_of_getElem? (i := 2) rfl)) (fun _ h9 => h9) rfl dX8_meanCoins_6 ?_
  refine lv_iconst (v := (0 : Int32)) hx hb dX8_meanCoins_9 (by decide) ?_
  refine va_iald hx hb hK hP 1 6 rfl rfl (inB_in (by decide : inB (0 : Int32) 55 = true)) dX8_meanCoins_10 ?_
  refine lv_if_ne (tgt := 23) hx hb dX8_meanCoins_11 (by decide) (fun c1 => ?_) (fun c1 => ?_)
  · have hF := oF c1 hF
    refine lv_aload_n hx hb dX8_meanCoins_23 rfl (lv_at hl 0 rfl) ?_
    obtain ⟨v2, hv2, hF⟩ := oB hF
    refine call_i (wr := []) (wn := [(aM, .inr (6, [.ref aMn, .ref aMt, .ref aMk, .int mU, .ref aMs, .int mB, .ref aMl, .int mI, .ref aMx, .int mH, .int mQ, .int mW, .ref aMd, .int mF, .int mR, .int mD, .int mJ, .int mA, .int (0 : Int32)])), (aMn, .inl (K 6, 55, .inl nN))]) (va_runV (As := []) (rest := []) ⟨hx, hb, hml, hown, hts⟩ (c_X8_coins l D K aM aMn aMt aMk aMs aMl aMx aMd mU mB mI mH mQ mW mF mR mD mJ mA (0 : Int32) nN v2 hv2 H.size) (cwV 0 hts gX8_meanCoins_X8_coins rfl rfl rfl (by decide +kernel) ⟨(Nat.le_of_ble_eq_true rfl), (Nat.le_of_ble_eq_true rfl)⟩) (prV hE hK hP hD hS hA [0, 1] rfl rfl 6 0 rfl rfl rfl) rfl rfl hl.1 rfl (lv_room (Nat.le_of_ble_eq_true rfl)) dX8_meanCoins_24 ⟨(Nat.le_of_ble_eq_true rfl), (Nat.le_of_ble_eq_true rfl)⟩) hP hD hS hA [0, 1] [] [0, 1] rfl rfl rfl (by decide) rfl rfl (fun H locs hP hD hS => ?_)
    refine lv_i2d hx hb dX8_meanCoins_27 ?_
    refine lv_aload_n hx hb dX8_meanCoins_28 rfl (lv_at hl 0 rfl) ?_
    refine va_get (D := D) (ci := 6) (v := .ref aMn) (C := RX8) (T := TX8) (N := 19) hx hb hts (fun _ h => List.mem_cons_of_mem _ (List.mem_append_left _ (List.mem_append_right _ h))) hown hK hP 0 rfl rfl 0 (by decide) (hts (.fieldLink RX8 9 "BarometerClubModel" "now" "[I") (List.mem_of_getElem? (i := 2) rfl)) (fun _ h9 => h9) rfl dX8_meanCoins_29 ?_
    refine lv_iconst (v := (0 : Int32)) hx hb dX8_meanCoins_32 (by decide) ?_
    refine va_iald hx hb hK hP 1 6 rfl rfl (inB_in (by decide : inB (0 : Int32) 55 = true)) dX8_meanCoins_33 ?_
    refine lv_i2d hx hb dX8_meanCoins_34 ?_
    obtain ⟨g3, hF⟩ := oG hF
    refine lv_ddiv hx hb dX8_meanCoins_35 (n64_n g3) ?_
    exact fin_d (u := (FP.ddiv (FP.i2d v2.1) (FP.i2d (nN (0 : Int32).toNatClampNeg)), (0 : Int32))) hF hx hb hr hlocks hK hP hD hS (Nat.le_of_ble_eq_true rfl) (Nat.le_of_ble_eq_true rfl) dX8_meanCoins_36
  · have hF := oT c1 hF
    refine lv_aload_n hx hb dX8_meanCoins_14 rfl (lv_at hl 0 rfl) ?_
    refine lv_iconst (v := (1 : Int32)) hx hb dX8_meanCoins_15 (by decide) ?_
    obtain ⟨v4, hv4, hF⟩ := oB hF
    refine call_i (wr := [(aMn, .inl (K 6, 55, .inl nN))]) (wn := [(aM, .inr (6, [.ref aMn, .ref aMt, .ref aMk, .int mU, .ref aMs, .int mB, .ref aMl, .int mI, .ref aMx, .int mH, .int mQ, .int mW, .ref aMd, .int mF, .int mR, .int mD, .int mJ, .int mA, .int v4.2])), (aMn, .inl (K 6, 55, .inl nN))]) (va_runV (As := [.int (1 : Int32)]) (rest := []) ⟨hx, hb, hml, hown, hts⟩ (c_X8_raises l D K aM aMn aMt aMk aMs aMl aMx aMd mU mB mI mH mQ mW mF mR mD mJ mA (0 : Int32) (1 : Int32) v4 hv4 H.size) (cwV 1 hts gX8_meanCoins_X8_raises rfl rfl rfl (by decide +kernel) ⟨(Nat.le_of_ble_eq_true rfl), (Nat.le_of_ble_eq_true rfl)⟩) (prV hE hK hP hD hS hA [0] rfl rfl 6 0 rfl rfl rfl) rfl rfl hl.1 rfl (lv_room (Nat.le_of_ble_eq_true rfl)) dX8_meanCoins_16 ⟨(Nat.le_of_ble_eq_true rfl), (Nat.le_of_ble_eq_true rfl)⟩) hP hD hS hA [0] [1] [1, 0] rfl rfl rfl (by decide) rfl rfl (fun H locs hP hD hS => ?_)
    refine lv_i2d hx hb dX8_meanCoins_19 ?_
    refine lv_goto (tgt := 36) hx hb dX8_meanCoins_20 (by decide) ?_
    exact fin_d (u := (FP.i2d v4.1, v4.2)) hF hx hb hr hlocks hK hP hD hS (Nat.le_of_ble_eq_true rfl) (Nat.le_of_ble_eq_true rfl) dX8_meanCoins_36
abbrev RM_X8_tappedShare : Room := { frames := 3, cells := 0, slots := 0, locals := 65 }
abbrev MC_X8_tappedShare : Nat := 0
abbrev MS_X8_tappedShare : Nat := 0
abbrev wf_X8_tappedShare (K : Nat → ClassId) (aM : Nat) (aMn : Nat) (aMt : Nat) (aMk : Nat) (aMs : Nat) (aMl : Nat) (aMx : Nat) (aMd : Nat) (mU : Int32) (mB : Int32) (mI : Int32) (mH : Int32) (mQ : Int32) (mW : Int32) (mF : Int32) (mR : Int32) (mD : Int32) (mJ : Int32) (mA : Int32) (nN : Nat → Int32) (v : UInt32 × Int32) : va_W := [(aM, .inr (6, [.ref aMn, .ref aMt, .ref aMk, .int mU, .ref aMs, .int mB, .ref aMl, .int mI, .ref aMx, .int mH, .int mQ, .int mW, .ref aMd, .int mF, .int mR, .int mD, .int mJ, .int mA, .int v.2])), (aMn, .inl (K 6, 55, .inl nN))]
set_option maxHeartbeats 4000000 in
set_option maxRecDepth 100000 in
theorem c_X8_tappedShare (l : Launch) (D : va_G) (K : Nat → ClassId) (aM : Nat) (aMn : Nat) (aMt : Nat) (aMk : Nat) (aMs : Nat) (aMl : Nat) (aMx : Nat) (aMd : Nat) (mU : Int32) (mB : Int32) (mI : Int32) (mH : Int32) (mQ : Int32) (mW : Int32) (mF : Int32) (mR : Int32) (mD : Int32) (mJ : Int32) (mA : Int32) (mT : Int32) (nN : Nat → Int32)  (v : UInt32 × Int32) (hF : f_X8_tappedShare mT nN = some v) (sz : Nat) :
    (Met l yX8_tappedShare wsX8_tappedShare RM_X8_tappedShare (PC D (TY K) [(aM, .inr (6, [.ref aMn, .ref aMt, .ref aMk, .int mU, .ref aMs, .int mB, .ref aMl, .int mI, .ref aMx, .int mH, .int mQ, .int mW, .ref aMd, .int mF, .int mR, .int mD, .int mJ, .int mA, .int mT])), (aMn, .inl (K 6, 55, .inl nN))] [.ref aM] sz) (QF D (TY K) (wf_X8_tappedShare K aM aMn aMt aMk aMs aMl aMx aMd mU mB mI mH mQ mW mF mR mD mJ mA nN) v (va_A [(aM, .inr (6, [.ref aMn, .ref aMt, .ref aMk, .int mU, .ref aMs, .int mB, .ref aMl, .int mI, .ref aMx, .int mH, .int mQ, .int mW, .ref aMd, .int mF, .int mR, .int mD, .int mJ, .int mA, .int mT])), (aMn, .inl (K 6, 55, .inl nN))] sz)) MC_X8_tappedShare MS_X8_tappedShare (va_A [(aM, .inr (6, [.ref aMn, .ref aMt, .ref aMk, .int mU, .ref aMs, .int mB, .ref aMl, .int mI, .ref aMx, .int mH, .int mQ, .int mW, .ref aMd, .int mF, .int mR, .int mD, .int mJ, .int mA, .int mT])), (aMn, .inl (K 6, 55, .inl nN))] sz)) := by
  refine pro (Qf := fun A => QF D (TY K) (wf_X8_tappedShare K aM aMn aMt aMk aMs aMl aMx aMd mU mB mI mH mQ mW mF mR mD mJ mA nN) v A) (cc := cX8_tappedShare) (maxL := 3) (ret := (some .float)) (by decide +kernel) rfl (Nat.le_of_ble_eq_true rfl) ?_
  intro p e s m args below meth c hx hb hr hts hown hlocks hml hini hK A hA hE hP hD hS ls hl
  have hown : s.vm.findClass RX8 = some m.cls := hown
  have hl : lv_has ls 3 [(0, .ref aM)] := hl
  have loop_9 : ∀ (mT_9 : Int32) (n : Nat) (y9_1 : Int32) (y9_2 : Int32), f_X8_tappedShare_L9 nN mT_9 n y9_1 y9_2 = some v → ∀ (H : Heap) (locs : List Loc), va_P D vwC7 [(aM, .inr (6, [.ref aMn, .ref aMt, .ref aMk, .int mU, .ref aMs, .int mB, .ref aMl, .int mI, .ref aMx, .int mH, .int mQ, .int mW, .ref aMd, .int mF, .int mR, .int mD, .int mJ, .int mA, .int mT_9])), (aMn, .inl (K 6, 55, .inl nN))] H → va_D A [(aM, .inr (6, [.ref aMn, .ref aMt, .ref aMk, .int mU, .ref aMs, .int mB, .ref aMl, .int mI, .ref aMx, .int mH, .int mQ, .int mW, .ref aMd, .int mF, .int mR, .int mD, .int mJ, .int mA, .int mT_9])), (aMn, .inl (K 6, 55, .inl nN))] → va_S A s.heap H locs → ∀ ls : Array Slot, lv_has ls 3 [(0, .ref aM), (1, .int y9_1), (2, .int y9_2)] → W p l e RM_X8_tappedShare s m args below meth c H locs 0 0 (MQ below (QF D (TY K) (wf_X8_tappedShare K aM aMn aMt aMk aMs aMl aMx aMd mU mB mI mH mQ mW mF mR mD mJ mA nN) v A) args s MC_X8_tappedShare MS_X8_tappedShare A) (F0 m 9 ls []) := by
    intro mT_9 n
    induction n with
    | zero =>
      intro y9_1 y9_2 hF
      exact nomatch hF
    | succ n ih =>
      intro y9_1 y9_2 hF H locs hP hD hS ls hl
      rw [f_X8_tappedShare_L9.eq_2] at hF
      refine lv_iload_n hx hb dX8_tappedShare_9 rfl (lv_at hl 2 rfl) ?_
      refine lv_aload_n hx hb dX8_tappedShare_10 rfl (lv_at hl 0 rfl) ?_
      refine va_get (D := D) (ci := 6) (v := .ref aMn) (C := RX8) (T := TX8) (N := 19) hx hb hts (fun _ h => List.mem_cons_of_mem _ (List.mem_append_left _ (List.mem_append_right _ h))) hown hK hP 0 rfl rfl 0 (by decide) (hts (.fieldLink RX8 9 "BarometerClubModel" "now" "[I") (List.mem_of_getElem? (i := 2) rfl)) (fun _ h9 => h9) rfl dX8_tappedShare_11 ?_
      refine lv_iconst (v := (0 : Int32)) hx hb dX8_tappedShare_14 (by decide) ?_
      refine va_iald hx hb hK hP 1 6 rfl rfl (inB_in (by decide : inB (0 : Int32) 55 = true)) dX8_tappedShare_15 ?_
      refine lv_icmp_ge (tgt := 34) hx hb dX8_tappedShare_16 (by decide) (fun c1 => ?_) (fun c1 => ?_)
      · have hF := oT c1 hF
        refine lv_aload_n hx hb dX8_tappedShare_34 rfl (lv_at hl 0 rfl) ?_
        obtain ⟨v2, hv2, hF⟩ := oB hF
        refine call_i (wr := []) (wn := [(aM, .inr (6, [.ref aMn, .ref aMt, .ref aMk, .int mU, .ref aMs, .int mB, .ref aMl, .int mI, .ref aMx, .int mH, .int mQ, .int mW, .ref aMd, .int mF, .int mR, .int mD, .int mJ, .int mA, .int mT_9])), (aMn, .inl (K 6, 55, .inl nN))]) (va_runV (As := []) (rest := []) ⟨hx, hb, hml, hown, hts⟩ (c_X8_wagered l D K aM aMn aMt aMk aMs aMl aMx aMd mU mB mI mH mQ mW mF mR mD mJ mA mT_9 nN v2 hv2 H.size) (cwV 0 hts gX8_tappedShare_X8_wagered rfl rfl rfl (by decide +kernel) ⟨(Nat.le_of_ble_eq_true rfl), (Nat.le_of_ble_eq_true rfl)⟩) (prV hE hK hP hD hS hA [0, 1] rfl rfl 6 0 rfl rfl rfl) rfl rfl hl.1 rfl (lv_room (Nat.le_of_ble_eq_true rfl)) dX8_tappedShare_35 ⟨(Nat.le_of_ble_eq_true rfl), (Nat.le_of_ble_eq_true rfl)⟩) hP hD hS hA [0, 1] [] [0, 1] rfl rfl rfl (by decide) rfl rfl (fun H locs hP hD hS => ?_)
        refine lv_if_ne (tgt := 50) hx hb dX8_tappedShare_38 (by decide) (fun c3 => ?_) (fun c3 => ?_)
        · have hF := oF c3 hF
          refine lv_iload_n hx hb dX8_tappedShare_50 rfl (lv_at hl 1 rfl) ?_
          refine lv_i2f hx hb dX8_tappedShare_51 ?_
          refine lv_aload_n hx hb dX8_tappedShare_52 rfl (lv_at hl 0 rfl) ?_
          obtain ⟨v4, hv4, hF⟩ := oB hF
          refine call_i (wr := []) (wn := [(aM, .inr (6, [.ref aMn, .ref aMt, .ref aMk, .int mU, .ref aMs, .int mB, .ref aMl, .int mI, .ref aMx, .int mH, .int mQ, .int mW, .ref aMd, .int mF, .int mR, .int mD, .int mJ, .int mA, .int mT_9])), (aMn, .inl (K 6, 55, .inl nN))]) (va_runV (As := []) (rest := [.float (FP.i2f y9_1)]) ⟨hx, hb, hml, hown, hts⟩ (c_X8_wagered l D K aM aMn aMt aMk aMs aMl aMx aMd mU mB mI mH mQ mW mF mR mD mJ mA mT_9 nN v4 hv4 H.size) (cwV 0 hts gX8_tappedShare_X8_wagered rfl rfl rfl (by decide +kernel) ⟨(Nat.le_of_ble_eq_true rfl), (Nat.le_of_ble_eq_true rfl)⟩) (prV hE hK hP hD hS hA [0, 1] rfl rfl 6 0 rfl rfl rfl) rfl rfl hl.1 rfl (lv_room (Nat.le_of_ble_eq_true rfl)) dX8_tappedShare_53 ⟨(Nat.le_of_ble_eq_true rfl), (Nat.le_of_ble_eq_true rfl)⟩) hP hD hS hA [0, 1] [] [0, 1] rfl rfl rfl (by decide) rfl rfl (fun H locs hP hD hS => ?_)
          refine lv_i2f hx hb dX8_tappedShare_56 ?_
          obtain ⟨g5, hF⟩ := oG hF
          refine lv_fdiv hx hb dX8_tappedShare_57 (n32_n g5) ?_
          exact fin_f (u := (FP.fdiv (FP.i2f y9_1) (FP.i2f v4.1), mT_9)) hF hx hb hr hlocks hK hP hD hS (Nat.le_of_ble_eq_true rfl) (Nat.le_of_ble_eq_true rfl) dX8_tappedShare_58
        · have hF := oT c3 hF
          refine lv_aload_n hx hb dX8_tappedShare_41 rfl (lv_at hl 0 rfl) ?_
          refine lv_iconst (v := (1 : Int32)) hx hb dX8_tappedShare_42 (by decide) ?_
          obtain ⟨v6, hv6, hF⟩ := oB hF
          refine call_i (wr := [(aMn, .inl (K 6, 55, .inl nN))]) (wn := [(aM, .inr (6, [.ref aMn, .ref aMt, .ref aMk, .int mU, .ref aMs, .int mB, .ref aMl, .int mI, .ref aMx, .int mH, .int mQ, .int mW, .ref aMd, .int mF, .int mR, .int mD, .int mJ, .int mA, .int v6.2])), (aMn, .inl (K 6, 55, .inl nN))]) (va_runV (As := [.int (1 : Int32)]) (rest := []) ⟨hx, hb, hml, hown, hts⟩ (c_X8_raises l D K aM aMn aMt aMk aMs aMl aMx aMd mU mB mI mH mQ mW mF mR mD mJ mA mT_9 (1 : Int32) v6 hv6 H.size) (cwV 1 hts gX8_tappedShare_X8_raises rfl rfl rfl (by decide +kernel) ⟨(Nat.le_of_ble_eq_true rfl), (Nat.le_of_ble_eq_true rfl)⟩) (prV hE hK hP hD hS hA [0] rfl rfl 6 0 rfl rfl rfl) rfl rfl hl.1 rfl (lv_room (Nat.le_of_ble_eq_true rfl)) dX8_tappedShare_43 ⟨(Nat.le_of_ble_eq_true rfl), (Nat.le_of_ble_eq_true rfl)⟩) hP hD hS hA [0] [1] [1, 0] rfl rfl rfl (by decide) rfl rfl (fun H locs hP hD hS => ?_)
          refine lv_i2f hx hb dX8_tappedShare_46 ?_
          refine lv_goto (tgt := 58) hx hb dX8_tappedShare_47 (by decide) ?_
          exact fin_f (u := (FP.i2f v6.1, v6.2)) hF hx hb hr hlocks hK hP hD hS (Nat.le_of_ble_eq_true rfl) (Nat.le_of_ble_eq_true rfl) dX8_tappedShare_58
      · have hF := oF c1 hF
        refine lv_iload_n hx hb dX8_tappedShare_19 rfl (lv_at hl 1 rfl) ?_
        refine lv_aload_n hx hb dX8_tappedShare_20 rfl (lv_at hl 0 rfl) ?_
        refine lv_iload_n hx hb dX8_tappedShare_21 rfl (lv_at hl 2 rfl) ?_
        refine lv_iconst (v := (4 : Int32)) hx hb dX8_tappedShare_22 (by decide) ?_
        obtain ⟨v7, hv7, hF⟩ := oB hF
        refine call_i (wr := []) (wn := [(aM, .inr (6, [.ref aMn, .ref aMt, .ref aMk, .int mU, .ref aMs, .int mB, .ref aMl, .int mI, .ref aMx, .int mH, .int mQ, .int mW, .ref aMd, .int mF, .int mR, .int mD, .int mJ, .int mA, .int mT_9])), (aMn, .inl (K 6, 55, .inl nN))]) (va_runV (As := [.int y9_2, .int (4 : Int32)]) (rest := [.int y9_1]) ⟨hx, hb, hml, hown, hts⟩ (c_X8_of l D K aM aMn aMt aMk aMs aMl aMx aMd mU mB mI mH mQ mW mF mR mD mJ mA mT_9 nN y9_2 (4 : Int32) v7 hv7 H.size) (cwV 2 hts gX8_tappedShare_X8_of rfl rfl rfl (by decide +kernel) ⟨(Nat.le_of_ble_eq_true rfl), (Nat.le_of_ble_eq_true rfl)⟩) (prV hE hK hP hD hS hA [0, 1] rfl rfl 6 0 rfl rfl rfl) rfl rfl hl.1 rfl (lv_room (Nat.le_of_ble_eq_true rfl)) dX8_tappedShare_23 ⟨(Nat.le_of_ble_eq_true rfl), (Nat.le_of_ble_eq_true rfl)⟩) hP hD hS hA [0, 1] [] [0, 1] rfl rfl rfl (by decide) rfl rfl (fun H locs hP hD hS => ?_)
        refine lv_iadd hx hb dX8_tappedShare_26 ?_
        refine lv_istore_n (lv' := [(1, .int (y9_1 + v7.1)), (0, .ref aM), (2, .int y9_2)]) hx hb dX8_tappedShare_27 rfl hl (by decide) rfl (fun ls hl => ?_)
        refine lv_iinc (v := y9_2 + (1 : Int32)) (lv' := [(2, .int (y9_2 + (1 : Int32))), (1, .int (y9_1 + v7.1)), (0, .ref aM)]) hx hb dX8_tappedShare_28 hl (k := 2) rfl (by first | rfl | decide) (by decide) rfl (fun ls hl => ?_)
        refine lv_goto (tgt := 9) hx hb dX8_tappedShare_31 (by decide) ?_
        exact ih (y9_1 + v7.1) (y9_2 + (1 : Int32)) hF _ _ hP hD hS _ (lv_sub hl [2, 1, 0] rfl)
  rw [f_X8_tappedShare] at hF
  refine lv_aload_n hx hb dX8_tappedShare_0 rfl (lv_at hl 0 rfl) ?_
  refine lv_iconst (v := (0 : Int32)) hx hb dX8_tappedShare_1 (by decide) ?_
  refine va_put (D := D) (ci := 6) (v := .int (0 : Int32)) (ty := .int) (C := RX8) (T := TX8) (N := 19) hx hb hts (fun _ h => List.mem_cons_of_mem _ (List.mem_append_left _ (List.mem_append_right _ h))) tyX8 tyX8_ok nmX8 hown hK hP hD hS 0 rfl rfl 18 (by decide) (hts (.fieldLink RX8 36 "BarometerClubModel" "thrown" "I") (List.mem_of_getElem? (i := 1) rfl)) (fun _ h9 => h9) rfl (by decide +kernel) rfl rfl (Nat.le_of_ble_eq_true rfl) dX8_tappedShare_2 (fun H locs hP hD hS => ?_)
  have hP : va_P D vwC7 [(aM, .inr (6, [.ref aMn, .ref aMt, .ref aMk, .int mU, .ref aMs, .int mB, .ref aMl, .int mI, .ref aMx, .int mH, .int mQ, .int mW, .ref aMd, .int mF, .int mR, .int mD, .int mJ, .int mA, .int (0 : Int32)])), (aMn, .inl (K 6, 55, .inl nN))] H := hP
  have hD : va_D A [(aM, .inr (6, [.ref aMn, .ref aMt, .ref aMk, .int mU, .ref aMs, .int mB, .ref aMl, .int mI, .ref aMx, .int mH, .int mQ, .int mW, .ref aMd, .int mF, .int mR, .int mD, .int mJ, .int mA, .int (0 : Int32)])), (aMn, .inl (K 6, 55, .inl nN))] := hD
  refine lv_iconst (v := (0 : Int32)) hx hb dX8_tappedShare_5 (by decide) ?_
  refine lv_istore_n (lv' := [(1, .int (0 : Int32)), (0, .ref aM)]) hx hb dX8_tappedShare_6 rfl hl (by decide) rfl (fun ls hl => ?_)
  refine lv_iconst (v := (0 : Int32)) hx hb dX8_tappedShare_7 (by decide) ?_
  refine lv_istore_n (lv' := [(2, .int (0 : Int32)), (1, .int (0 : Int32)), (0, .ref aM)]) hx hb dX8_tappedShare_8 rfl hl (by decide) rfl (fun ls hl => ?_)
  exact loop_9 (0 : Int32) FU (0 : Int32) (0 : Int32) hF _ _ hP hD hS _ (lv_sub hl [2, 1, 0] rfl)
abbrev RM_X8_account : Room := { frames := 3, cells := 0, slots := 0, locals := 65 }
abbrev MC_X8_account : Nat := 0
abbrev MS_X8_account : Nat := 0
abbrev wf_X8_account (K : Nat → ClassId) (aM : Nat) (aMn : Nat) (aMt : Nat) (aMk : Nat) (aMs : Nat) (aMl : Nat) (aMx : Nat) (aMd : Nat) (mU : Int32) (mB : Int32) (mI : Int32) (mH : Int32) (mQ : Int32) (mW : Int32) (mF : Int32) (mR : Int32) (mD : Int32) (mJ : Int32) (mA : Int32) (nN : Nat → Int32) (v : Int32 × Int32) : va_W := [(aM, .inr (6, [.ref aMn, .ref aMt, .ref aMk, .int mU, .ref aMs, .int mB, .ref aMl, .int mI, .ref aMx, .int mH, .int mQ, .int mW, .ref aMd, .int mF, .int mR, .int mD, .int mJ, .int mA, .int v.2])), (aMn, .inl (K 6, 55, .inl nN))]
set_option maxHeartbeats 4000000 in
set_option maxRecDepth 100000 in
theorem c_X8_account (l : Launch) (D : va_G) (K : Nat → ClassId) (aM : Nat) (aMn : Nat) (aMt : Nat) (aMk : Nat) (aMs : Nat) (aMl : Nat) (aMx : Nat) (aMd : Nat) (mU : Int32) (mB : Int32) (mI : Int32) (mH : Int32) (mQ : Int32) (mW : Int32) (mF : Int32) (mR : Int32) (mD : Int32) (mJ : Int32) (mA : Int32) (mT : Int32) (nN : Nat → Int32) (p1 : Int32) (v : Int32 × Int32) (hF : f_X8_account mU mH mT nN p1 = some v) (sz : Nat) :
    (Met l yX8_account wsX8_account RM_X8_account (PC D (TY K) [(aM, .inr (6, [.ref aMn, .ref aMt, .ref aMk, .int mU, .ref aMs, .int mB, .ref aMl, .int mI, .ref aMx, .int mH, .int mQ, .int mW, .ref aMd, .int mF, .int mR, .int mD, .int mJ, .int mA, .int mT])), (aMn, .inl (K 6, 55, .inl nN))] [.ref aM, .int p1] sz) (QI D (TY K) (wf_X8_account K aM aMn aMt aMk aMs aMl aMx aMd mU mB mI mH mQ mW mF mR mD mJ mA nN) v (va_A [(aM, .inr (6, [.ref aMn, .ref aMt, .ref aMk, .int mU, .ref aMs, .int mB, .ref aMl, .int mI, .ref aMx, .int mH, .int mQ, .int mW, .ref aMd, .int mF, .int mR, .int mD, .int mJ, .int mA, .int mT])), (aMn, .inl (K 6, 55, .inl nN))] sz)) MC_X8_account MS_X8_account (va_A [(aM, .inr (6, [.ref aMn, .ref aMt, .ref aMk, .int mU, .ref aMs, .int mB, .ref aMl, .int mI, .ref aMx, .int mH, .int mQ, .int mW, .ref aMd, .int mF, .int mR, .int mD, .int mJ, .int mA, .int mT])), (aMn, .inl (K 6, 55, .inl nN))] sz)) := by
  refine pro (Qf := fun A => QI D (TY K) (wf_X8_account K aM aMn aMt aMk aMs aMl aMx aMd mU mB mI mH mQ mW mF mR mD mJ mA nN) v A) (cc := cX8_account) (maxL := 2) (ret := (some .int)) (by decide +kernel) rfl (Nat.le_of_ble_eq_true rfl) ?_
  intro p e s m args below meth c hx hb hr hts hown hlocks hml hini hK A hA hE hP hD hS ls hl
  have hown : s.vm.findClass RX8 = some m.cls := hown
  have hl : lv_has ls 2 [(0, .ref aM), (1, .int p1)] := hl
  rw [f_X8_account] at hF
  refine lv_aload_n hx hb dX8_account_0 rfl (lv_at hl 0 rfl) ?_
  refine lv_iconst (v := (0 : Int32)) hx hb dX8_account_1 (by decide) ?_
  refine va_put (D := D) (ci := 6) (v := .int (0 : Int32)) (ty := .int) (C := RX8) (T := TX8) (N := 19) hx hb hts (fun _ h => List.mem_cons_of_mem _ (List.mem_append_left _ (List.mem_append_right _ h))) tyX8 tyX8_ok nmX8 hown hK hP hD hS 0 rfl rfl 18 (by decide) (hts (.fieldLink RX8 36 "BarometerClubModel" "thrown" "I") (List.mem_of_getElem? (i := 1) rfl)) (fun _ h9 => h9) rfl (by decide +kernel) rfl rfl (Nat.le_of_ble_eq_true rfl) dX8_account_2 (fun H locs hP hD hS => ?_)
  have hP : va_P D vwC7 [(aM, .inr (6, [.ref aMn, .ref aMt, .ref aMk, .int mU, .ref aMs, .int mB, .ref aMl, .int mI, .ref aMx, .int mH, .int mQ, .int mW, .ref aMd, .int mF, .int mR, .int mD, .int mJ, .int mA, .int (0 : Int32)])), (aMn, .inl (K 6, 55, .inl nN))] H := hP
  have hD : va_D A [(aM, .inr (6, [.ref aMn, .ref aMt, .ref aMk, .int mU, .ref aMs, .int mB, .ref aMl, .int mI, .ref aMx, .int mH, .int mQ, .int mW, .ref aMd, .int mF, .int mR, .int mD, .int mJ, .int mA, .int (0 : Int32)])), (aMn, .inl (K 6, 55, .inl nN))] := hD
  refine lv_iload_n hx hb dX8_account_5 rfl (lv_at hl 1 rfl) ?_
  by_cases c1 : p1 = (0 : Int32)
  · have hF := oT c1 hF
    refine lv_tableIn (off := 58) (tgt := 64) hx hb dX8_account_6 (by rw [c1]; decide) (by rw [c1]; decide) (by rw [c1]; rfl) (by decide) ?_
    refine lv_aload_n hx hb dX8_account_64 rfl (lv_at hl 0 rfl) ?_
    refine va_get (D := D) (ci := 6) (v := .ref aMn) (C := RX8) (T := TX8) (N := 19) hx hb hts (fun _ h => List.mem_cons_of_mem _ (List.mem_append_left _ (List.mem_append_right _ h))) hown hK hP 0 rfl rfl 0 (by decide) (hts (.fieldLink RX8 9 "BarometerClubModel" "now" "[I") (List.mem_of_getElem? (i := 2) rfl)) (fun _ h9 => h9) rfl dX8_account_65 ?_
    refine lv_iconst (v := (0 : Int32)) hx hb dX8_account_68 (by decide) ?_
    refine va_iald hx hb hK hP 1 6 rfl rfl (inB_in (by decide : inB (0 : Int32) 55 = true)) dX8_account_69 ?_
    exact fin_i (u := (nN (0 : Int32).toNatClampNeg, (0 : Int32))) hF hx hb hr hlocks hK hP hD hS (Nat.le_of_ble_eq_true rfl) (Nat.le_of_ble_eq_true rfl) dX8_account_70
  have hF := oF c1 hF
  by_cases c2 : p1 = (1 : Int32)
  · have hF := oT c2 hF
    refine lv_tableIn (off := 65) (tgt := 71) hx hb dX8_account_6 (by rw [c2]; decide) (by rw [c2]; decide) (by rw [c2]; rfl) (by decide) ?_
    refine lv_aload_n hx hb dX8_account_71 rfl (lv_at hl 0 rfl) ?_
    obtain ⟨v3, hv3, hF⟩ := oB hF
    refine call_i (wr := []) (wn := [(aM, .inr (6, [.ref aMn, .ref aMt, .ref aMk, .int mU, .ref aMs, .int mB, .ref aMl, .int mI, .ref aMx, .int mH, .int mQ, .int mW, .ref aMd, .int mF, .int mR, .int mD, .int mJ, .int mA, .int (0 : Int32)])), (aMn, .inl (K 6, 55, .inl nN))]) (va_runV (As := []) (rest := []) ⟨hx, hb, hml, hown, hts⟩ (c_X8_coins l D K aM aMn aMt aMk aMs aMl aMx aMd mU mB mI mH mQ mW mF mR mD mJ mA (0 : Int32) nN v3 hv3 H.size) (cwV 0 hts gX8_account_X8_coins rfl rfl rfl (by decide +kernel) ⟨(Nat.le_of_ble_eq_true rfl), (Nat.le_of_ble_eq_true rfl)⟩) (prV hE hK hP hD hS hA [0, 1] rfl rfl 6 0 rfl rfl rfl) rfl rfl hl.1 rfl (lv_room (Nat.le_of_ble_eq_true rfl)) dX8_account_72 ⟨(Nat.le_of_ble_eq_true rfl), (Nat.le_of_ble_eq_true rfl)⟩) hP hD hS hA [0, 1] [] [0, 1] rfl rfl rfl (by decide) rfl rfl (fun H locs hP hD hS => ?_)
    exact fin_i (u := (v3.1, (0 : Int32))) hF hx hb hr hlocks hK hP hD hS (Nat.le_of_ble_eq_true rfl) (Nat.le_of_ble_eq_true rfl) dX8_account_75
  have hF := oF c2 hF
  by_cases c4 : p1 = (2 : Int32)
  · have hF := oT c4 hF
    refine lv_tableIn (off := 70) (tgt := 76) hx hb dX8_account_6 (by rw [c4]; decide) (by rw [c4]; decide) (by rw [c4]; rfl) (by decide) ?_
    refine lv_aload_n hx hb dX8_account_76 rfl (lv_at hl 0 rfl) ?_
    refine va_get (D := D) (ci := 6) (v := .ref aMn) (C := RX8) (T := TX8) (N := 19) hx hb hts (fun _ h => List.mem_cons_of_mem _ (List.mem_append_left _ (List.mem_append_right _ h))) hown hK hP 0 rfl rfl 0 (by decide) (hts (.fieldLink RX8 9 "BarometerClubModel" "now" "[I") (List.mem_of_getElem? (i := 2) rfl)) (fun _ h9 => h9) rfl dX8_account_77 ?_
    refine lv_bipush (v := (7 : Int32)) hx hb dX8_account_80 (by decide) ?_
    refine va_iald hx hb hK hP 1 6 rfl rfl (inB_in (by decide : inB (7 : Int32) 55 = true)) dX8_account_82 ?_
    exact fin_i (u := (nN (7 : Int32).toNatClampNeg, (0 : Int32))) hF hx hb hr hlocks hK hP hD hS (Nat.le_of_ble_eq_true rfl) (Nat.le_of_ble_eq_true rfl) dX8_account_83
  have hF := oF c4 hF
  by_cases c5 : p1 = (3 : Int32)
  · have hF := oT c5 hF
    refine lv_tableIn (off := 78) (tgt := 84) hx hb dX8_account_6 (by rw [c5]; decide) (by rw [c5]; decide) (by rw [c5]; rfl) (by decide) ?_
    refine lv_aload_n hx hb dX8_account_84 rfl (lv_at hl 0 rfl) ?_
    obtain ⟨v6, hv6, hF⟩ := oB hF
    refine call_i (wr := []) (wn := [(aM, .inr (6, [.ref aMn, .ref aMt, .ref aMk, .int mU, .ref aMs, .int mB, .ref aMl, .int mI, .ref aMx, .int mH, .int mQ, .int mW, .ref aMd, .int mF, .int mR, .int mD, .int mJ, .int mA, .int (0 : Int32)])), (aMn, .inl (K 6, 55, .inl nN))]) (va_runV (As := []) (rest := []) ⟨hx, hb, hml, hown, hts⟩ (c_X8_wagered l D K aM aMn aMt aMk aMs aMl aMx aMd mU mB mI mH mQ mW mF mR mD mJ mA (0 : Int32) nN v6 hv6 H.size) (cwV 0 hts gX8_account_X8_wagered rfl rfl rfl (by decide +kernel) ⟨(Nat.le_of_ble_eq_true rfl), (Nat.le_of_ble_eq_true rfl)⟩) (prV hE hK hP hD hS hA [0, 1] rfl rfl 6 0 rfl rfl rfl) rfl rfl hl.1 rfl (lv_room (Nat.le_of_ble_eq_true rfl)) dX8_account_85 ⟨(Nat.le_of_ble_eq_true rfl), (Nat.le_of_ble_eq_true rfl)⟩) hP hD hS hA [0, 1] [] [0, 1] rfl rfl rfl (by decide) rfl rfl (fun H locs hP hD hS => ?_)
    exact fin_i (u := (v6.1, (0 : Int32))) hF hx hb hr hlocks hK hP hD hS (Nat.le_of_ble_eq_true rfl) (Nat.le_of_ble_eq_true rfl) dX8_account_88
  have hF := oF c5 hF
  by_cases c7 : p1 = (4 : Int32)
  · have hF := oT c7 hF
    refine lv_tableIn (off := 83) (tgt := 89) hx hb dX8_account_6 (by rw [c7]; decide) (by rw [c7]; decide) (by rw [c7]; rfl) (by decide) ?_
    refine lv_aload_n hx hb dX8_account_89 rfl (lv_at hl 0 rfl) ?_
    refine va_get (D := D) (ci := 6) (v := .ref aMn) (C := RX8) (T := TX8) (N := 19) hx hb hts (fun _ h => List.mem_cons_of_mem _ (List.mem_append_left _ (List.mem_append_right _ h))) hown hK hP 0 rfl rfl 0 (by decide) (hts (.fieldLink RX8 9 "BarometerClubModel" "now" "[I") (List.mem_of_getElem? (i := 2) rfl)) (fun _ h9 => h9) rfl dX8_account_90 ?_
    refine lv_bipush (v := (8 : Int32)) hx hb dX8_account_93 (by decide) ?_
    refine va_iald hx hb hK hP 1 6 rfl rfl (inB_in (by decide : inB (8 : Int32) 55 = true)) dX8_account_95 ?_
    exact fin_i (u := (nN (8 : Int32).toNatClampNeg, (0 : Int32))) hF hx hb hr hlocks hK hP hD hS (Nat.le_of_ble_eq_true rfl) (Nat.le_of_ble_eq_true rfl) dX8_account_96
  have hF := oF c7 hF
  by_cases c8 : p1 = (5 : Int32)
  · have hF := oT c8 hF
    refine lv_tableIn (off := 91) (tgt := 97) hx hb dX8_account_6 (by rw [c8]; decide) (by rw [c8]; decide) (by rw [c8]; rfl) (by decide) ?_
    refine lv_aload_n hx hb dX8_account_97 rfl (lv_at hl 0 rfl) ?_
    refine va_get (D := D) (ci := 6) (v := .ref aMn) (C := RX8) (T := TX8) (N := 19) hx hb hts (fun _ h => List.mem_cons_of_mem _ (List.mem_append_left _ (List.mem_append_right _ h))) hown hK hP 0 rfl rfl 0 (by decide) (hts (.fieldLink RX8 9 "BarometerClubModel" "now" "[I") (List.mem_of_getElem? (i := 2) rfl)) (fun _ h9 => h9) rfl dX8_account_98 ?_
    refine lv_bipush (v := (9 : Int32)) hx hb dX8_account_101 (by decide) ?_
    refine va_iald hx hb hK hP 1 6 rfl rfl (inB_in (by decide : inB (9 : Int32) 55 = true)) dX8_account_103 ?_
    exact fin_i (u := (nN (9 : Int32).toNatClampNeg, (0 : Int32))) hF hx hb hr hlocks hK hP hD hS (Nat.le_of_ble_eq_true rfl) (Nat.le_of_ble_eq_true rfl) dX8_account_104
  have hF := oF c8 hF
  by_cases c9 : p1 = (6 : Int32)
  · have hF := oT c9 hF
    refine lv_tableIn (off := 99) (tgt := 105) hx hb dX8_account_6 (by rw [c9]; decide) (by rw [c9]; decide) (by rw [c9]; rfl) (by decide) ?_
    refine lv_aload_n hx hb dX8_account_105 rfl (lv_at hl 0 rfl) ?_
    refine va_get (D := D) (ci := 6) (v := .ref aMn) (C := RX8) (T := TX8) (N := 19) hx hb hts (fun _ h => List.mem_cons_of_mem _ (List.mem_append_left _ (List.mem_append_right _ h))) hown hK hP 0 rfl rfl 0 (by decide) (hts (.fieldLink RX8 9 "BarometerClubModel" "now" "[I") (List.mem_of_getElem? (i := 2) rfl)) (fun _ h9 => h9) rfl dX8_account_106 ?_
    refine lv_bipush (v := (10 : Int32)) hx hb dX8_account_109 (by decide) ?_
    refine va_iald hx hb hK hP 1 6 rfl rfl (inB_in (by decide : inB (10 : Int32) 55 = true)) dX8_account_111 ?_
    exact fin_i (u := (nN (10 : Int32).toNatClampNeg, (0 : Int32))) hF hx hb hr hlocks hK hP hD hS (Nat.le_of_ble_eq_true rfl) (Nat.le_of_ble_eq_true rfl) dX8_account_112
  have hF := oF c9 hF
  by_cases c10 : p1 = (7 : Int32)
  · have hF := oT c10 hF
    refine lv_tableIn (off := 107) (tgt := 113) hx hb dX8_account_6 (by rw [c10]; decide) (by rw [c10]; decide) (by rw [c10]; rfl) (by decide) ?_
    refine lv_aload_n hx hb dX8_account_113 rfl (lv_at hl 0 rfl) ?_
    refine va_get (D := D) (ci := 6) (v := .ref aMn) (C := RX8) (T := TX8) (N := 19) hx hb hts (fun _ h => List.mem_cons_of_mem _ (List.mem_append_left _ (List.mem_append_right _ h))) hown hK hP 0 rfl rfl 0 (by decide) (hts (.fieldLink RX8 9 "BarometerClubModel" "now" "[I") (List.mem_of_getElem? (i := 2) rfl)) (fun _ h9 => h9) rfl dX8_account_114 ?_
    refine lv_bipush (v := (11 : Int32)) hx hb dX8_account_117 (by decide) ?_
    refine va_iald hx hb hK hP 1 6 rfl rfl (inB_in (by decide : inB (11 : Int32) 55 = true)) dX8_account_119 ?_
    exact fin_i (u := (nN (11 : Int32).toNatClampNeg, (0 : Int32))) hF hx hb hr hlocks hK hP hD hS (Nat.le_of_ble_eq_true rfl) (Nat.le_of_ble_eq_true rfl) dX8_account_120
  have hF := oF c10 hF
  by_cases c11 : p1 = (8 : Int32)
  · have hF := oT c11 hF
    refine lv_tableIn (off := 115) (tgt := 121) hx hb dX8_account_6 (by rw [c11]; decide) (by rw [c11]; decide) (by rw [c11]; rfl) (by decide) ?_
    refine lv_aload_n hx hb dX8_account_121 rfl (lv_at hl 0 rfl) ?_
    refine va_get (D := D) (ci := 6) (v := .ref aMn) (C := RX8) (T := TX8) (N := 19) hx hb hts (fun _ h => List.mem_cons_of_mem _ (List.mem_append_left _ (List.mem_append_right _ h))) hown hK hP 0 rfl rfl 0 (by decide) (hts (.fieldLink RX8 9 "BarometerClubModel" "now" "[I") (List.mem_of_getElem? (i := 2) rfl)) (fun _ h9 => h9) rfl dX8_account_122 ?_
    refine lv_bipush (v := (12 : Int32)) hx hb dX8_account_125 (by decide) ?_
    refine va_iald hx hb hK hP 1 6 rfl rfl (inB_in (by decide : inB (12 : Int32) 55 = true)) dX8_account_127 ?_
    exact fin_i (u := (nN (12 : Int32).toNatClampNeg, (0 : Int32))) hF hx hb hr hlocks hK hP hD hS (Nat.le_of_ble_eq_true rfl) (Nat.le_of_ble_eq_true rfl) dX8_account_128
  have hF := oF c11 hF
  by_cases c12 : p1 = (9 : Int32)
  · have hF := oT c12 hF
    refine lv_tableIn (off := 123) (tgt := 129) hx hb dX8_account_6 (by rw [c12]; decide) (by rw [c12]; decide) (by rw [c12]; rfl) (by decide) ?_
    refine lv_aload_n hx hb dX8_account_129 rfl (lv_at hl 0 rfl) ?_
    refine va_get (D := D) (ci := 6) (v := .int mU) (C := RX8) (T := TX8) (N := 19) hx hb hts (fun _ h => List.mem_cons_of_mem _ (List.mem_append_left _ (List.mem_append_right _ h))) hown hK hP 0 rfl rfl 3 (by decide) (hts (.fieldLink RX8 39 "BarometerClubModel" "undos" "I") (List.mem_of_getElem? (i := 3) rfl)) (fun _ h9 => h9) rfl dX8_account_130 ?_
    exact fin_i (u := (mU, (0 : Int32))) hF hx hb hr hlocks hK hP hD hS (Nat.le_of_ble_eq_true rfl) (Nat.le_of_ble_eq_true rfl) dX8_account_133
  have hF := oF c12 hF
  by_cases c13 : p1 = (10 : Int32)
  · have hF := oT c13 hF
    refine lv_tableIn (off := 128) (tgt := 134) hx hb dX8_account_6 (by rw [c13]; decide) (by rw [c13]; decide) (by rw [c13]; rfl) (by decide) ?_
    refine lv_aload_n hx hb dX8_account_134 rfl (lv_at hl 0 rfl) ?_
    refine va_get (D := D) (ci := 6) (v := .int mH) (C := RX8) (T := TX8) (N := 19) hx hb hts (fun _ h => List.mem_cons_of_mem _ (List.mem_append_left _ (List.mem_append_right _ h))) hown hK hP 0 rfl rfl 9 (by decide) (hts (.fieldLink RX8 176 "BarometerClubModel" "length" "I") (List.mem_of_getElem? (i := 4) rfl)) (fun _ h9 => h9) rfl dX8_account_135 ?_
    exact fin_i (u := (mH, (0 : Int32))) hF hx hb hr hlocks hK hP hD hS (Nat.le_of_ble_eq_true rfl) (Nat.le_of_ble_eq_true rfl) dX8_account_138
  have hF := oF c13 hF
  refine tsw_d (ks := ([0, 1, 2, 3, 4, 5, 6, 7, 8, 9, 10] : List Int)) (tgt := 139) hx hb dX8_account_6 (by decide) (by decide) (List.forall_mem_cons.mpr ⟨lv_neT c1 rfl, List.forall_mem_cons.mpr ⟨lv_neT c2 rfl, List.forall_mem_cons.mpr ⟨lv_neT c4 rfl, List.forall_mem_cons.mpr ⟨lv_neT c5 rfl, List.forall_mem_cons.mpr ⟨lv_neT c7 rfl, List.forall_mem_cons.mpr ⟨lv_neT c8 rfl, List.forall_mem_cons.mpr ⟨lv_neT c9 rfl, List.forall_mem_cons.mpr ⟨lv_neT c10 rfl, List.forall_mem_cons.mpr ⟨lv_neT c11 rfl, List.forall_mem_cons.mpr ⟨lv_neT c12 rfl, List.forall_mem_cons.mpr ⟨lv_neT c13 rfl, fun _ h9 => absurd h9 List.not_mem_nil⟩⟩⟩⟩⟩⟩⟩⟩⟩⟩⟩) (by decide) ?_
  refine lv_aload_n hx hb dX8_account_139 rfl (lv_at hl 0 rfl) ?_
  refine lv_iconst (v := (1 : Int32)) hx hb dX8_account_140 (by decide) ?_
  obtain ⟨v14, hv14, hF⟩ := oB hF
  refine call_i (wr := [(aMn, .inl (K 6, 55, .inl nN))]) (wn := [(aM, .inr (6, [.ref aMn, .ref aMt, .ref aMk, .int mU, .ref aMs, .int mB, .ref aMl, .int mI, .ref aMx, .int mH, .int mQ, .int mW, .ref aMd, .int mF, .int mR, .int mD, .int mJ, .int mA, .int v14.2])), (aMn, .inl (K 6, 55, .inl nN))]) (va_runV (As := [.int (1 : Int32)]) (rest := []) ⟨hx, hb, hml, hown, hts⟩ (c_X8_raises l D K aM aMn aMt aMk aMs aMl aMx aMd mU mB mI mH mQ mW mF mR mD mJ mA (0 : Int32) (1 : Int32) v14 hv14 H.size) (cwV 1 hts gX8_account_X8_raises rfl rfl rfl (by decide +kernel) ⟨(Nat.le_of_ble_eq_true rfl), (Nat.le_of_ble_eq_true rfl)⟩) (prV hE hK hP hD hS hA [0] rfl rfl 6 0 rfl rfl rfl) rfl rfl hl.1 rfl (lv_room (Nat.le_of_ble_eq_true rfl)) dX8_account_141 ⟨(Nat.le_of_ble_eq_true rfl), (Nat.le_of_ble_eq_true rfl)⟩) hP hD hS hA [0] [1] [1, 0] rfl rfl rfl (by decide) rfl rfl (fun H locs hP hD hS => ?_)
  exact fin_i (u := (v14.1, v14.2)) hF hx hb hr hlocks hK hP hD hS (Nat.le_of_ble_eq_true rfl) (Nat.le_of_ble_eq_true rfl) dX8_account_144
abbrev RM_X8_undo : Room := { frames := 1, cells := 0, slots := 0, locals := 21 }
abbrev MC_X8_undo : Nat := 0
abbrev MS_X8_undo : Nat := 0
abbrev wf_X8_undo (K : Nat → ClassId) (aM : Nat) (aMn : Nat) (aMt : Nat) (aMk : Nat) (aMs : Nat) (aMl : Nat) (aMx : Nat) (aMd : Nat) (mB : Int32) (mI : Int32) (mH : Int32) (mQ : Int32) (mW : Int32) (mF : Int32) (mR : Int32) (mD : Int32) (mJ : Int32) (mA : Int32) (nK : Nat → Int32) (v : Int32 × Int32 × Int32 × (Nat → Int32)) : va_W := [(aM, .inr (6, [.ref aMn, .ref aMt, .ref aMk, .int v.2.1, .ref aMs, .int mB, .ref aMl, .int mI, .ref aMx, .int mH, .int mQ, .int mW, .ref aMd, .int mF, .int mR, .int mD, .int mJ, .int mA, .int v.2.2.1])), (aMn, .inl (K 6, 55, .inl v.2.2.2)), (aMk, .inl (K 8, 440, .inl nK))]
set_option maxHeartbeats 4000000 in
set_option maxRecDepth 100000 in
theorem c_X8_undo (l : Launch) (D : va_G) (K : Nat → ClassId) (aM : Nat) (aMn : Nat) (aMt : Nat) (aMk : Nat) (aMs : Nat) (aMl : Nat) (aMx : Nat) (aMd : Nat) (mU : Int32) (mB : Int32) (mI : Int32) (mH : Int32) (mQ : Int32) (mW : Int32) (mF : Int32) (mR : Int32) (mD : Int32) (mJ : Int32) (mA : Int32) (mT : Int32) (nN : Nat → Int32) (nK : Nat → Int32)  (v : Int32 × Int32 × Int32 × (Nat → Int32)) (hF : f_X8_undo mU mT nN nK = some v) (sz : Nat) :
    (Met l yX8_undo wsX8_undo RM_X8_undo (PC D (TY K) [(aM, .inr (6, [.ref aMn, .ref aMt, .ref aMk, .int mU, .ref aMs, .int mB, .ref aMl, .int mI, .ref aMx, .int mH, .int mQ, .int mW, .ref aMd, .int mF, .int mR, .int mD, .int mJ, .int mA, .int mT])), (aMn, .inl (K 6, 55, .inl nN)), (aMk, .inl (K 8, 440, .inl nK))] [.ref aM] sz) (QI D (TY K) (wf_X8_undo K aM aMn aMt aMk aMs aMl aMx aMd mB mI mH mQ mW mF mR mD mJ mA nK) v (va_A [(aM, .inr (6, [.ref aMn, .ref aMt, .ref aMk, .int mU, .ref aMs, .int mB, .ref aMl, .int mI, .ref aMx, .int mH, .int mQ, .int mW, .ref aMd, .int mF, .int mR, .int mD, .int mJ, .int mA, .int mT])), (aMn, .inl (K 6, 55, .inl nN)), (aMk, .inl (K 8, 440, .inl nK))] sz)) MC_X8_undo MS_X8_undo (va_A [(aM, .inr (6, [.ref aMn, .ref aMt, .ref aMk, .int mU, .ref aMs, .int mB, .ref aMl, .int mI, .ref aMx, .int mH, .int mQ, .int mW, .ref aMd, .int mF, .int mR, .int mD, .int mJ, .int mA, .int mT])), (aMn, .inl (K 6, 55, .inl nN)), (aMk, .inl (K 8, 440, .inl nK))] sz)) := by
  refine pro (Qf := fun A => QI D (TY K) (wf_X8_undo K aM aMn aMt aMk aMs aMl aMx aMd mB mI mH mQ mW mF mR mD mJ mA nK) v A) (cc := cX8_undo) (maxL := 2) (ret := (some .int)) (by decide +kernel) rfl (Nat.le_of_ble_eq_true rfl) ?_
  intro p e s m args below meth c hx hb hr hts hown hlocks hml hini hK A hA hE hP hD hS ls hl
  have hown : s.vm.findClass RX8 = some m.cls := hown
  have hl : lv_has ls 2 [(0, .ref aM)] := hl
  have loop_30 : ∀ (mU_30 : Int32) (mT_30 : Int32) (n : Nat) (y30_1 : Int32) (nN_30 : Nat → Int32), f_X8_undo_L30 nK mU_30 mT_30 n y30_1 nN_30 = some v → ∀ (H : Heap) (locs : List Loc), va_P D vwC7 [(aM, .inr (6, [.ref aMn, .ref aMt, .ref aMk, .int mU_30, .ref aMs, .int mB, .ref aMl, .int mI, .ref aMx, .int mH, .int mQ, .int mW, .ref aMd, .int mF, .int mR, .int mD, .int mJ, .int mA, .int mT_30])), (aMn, .inl (K 6, 55, .inl nN_30)), (aMk, .inl (K 8, 440, .inl nK))] H → va_D A [(aM, .inr (6, [.ref aMn, .ref aMt, .ref aMk, .int mU_30, .ref aMs, .int mB, .ref aMl, .int mI, .ref aMx, .int mH, .int mQ, .int mW, .ref aMd, .int mF, .int mR, .int mD, .int mJ, .int mA, .int mT_30])), (aMn, .inl (K 6, 55, .inl nN_30)), (aMk, .inl (K 8, 440, .inl nK))] → va_S A s.heap H locs → ∀ ls : Array Slot, lv_has ls 2 [(0, .ref aM), (1, .int y30_1)] → W p l e RM_X8_undo s m args below meth c H locs 0 0 (MQ below (QI D (TY K) (wf_X8_undo K aM aMn aMt aMk aMs aMl aMx aMd mB mI mH mQ mW mF mR mD mJ mA nK) v A) args s MC_X8_undo MS_X8_undo A) (F0 m 30 ls []) := by
    intro mU_30 mT_30 n
    induction n with
    | zero =>
      intro y30_1 nN_30 hF
      exact nomatch hF
    | succ n ih =>
      intro y30_1 nN_30 hF H locs hP hD hS ls hl
      rw [f_X8_undo_L30.eq_2] at hF
      refine lv_iload_n hx hb dX8_undo_30 rfl (lv_at hl 1 rfl) ?_
      refine lv_bipush (v := (55 : Int32)) hx hb dX8_undo_31 (by decide) ?_
      refine lv_icmp_ge (tgt := 62) hx hb dX8_undo_33 (by decide) (fun c2 => ?_) (fun c2 => ?_)
      · have hF := oT c2 hF
        refine lv_aload_n hx hb dX8_undo_62 rfl (lv_at hl 0 rfl) ?_
        refine va_get (D := D) (ci := 6) (v := .int mU_30) (C := RX8) (T := TX8) (N := 19) hx hb hts (fun _ h => List.mem_cons_of_mem _ (List.mem_append_left _ (List.mem_append_right _ h))) hown hK hP 0 rfl rfl 3 (by decide) (hts (.fieldLink RX8 39 "BarometerClubModel" "undos" "I") (List.mem_of_getElem? (i := 2) rfl)) (fun _ h9 => h9) rfl dX8_undo_63 ?_
        exact fin_i (u := (mU_30, (mU_30, mT_30, nN_30))) hF hx hb hr hlocks hK hP hD hS (Nat.le_of_ble_eq_true rfl) (Nat.le_of_ble_eq_true rfl) dX8_undo_66
      · have hF := oF c2 hF
        refine lv_aload_n hx hb dX8_undo_36 rfl (lv_at hl 0 rfl) ?_
        refine va_get (D := D) (ci := 6) (v := .ref aMn) (C := RX8) (T := TX8) (N := 19) hx hb hts (fun _ h => List.mem_cons_of_mem _ (List.mem_append_left _ (List.mem_append_right _ h))) hown hK hP 0 rfl rfl 0 (by decide) (hts (.fieldLink RX8 9 "BarometerClubModel" "now" "[I") (List.mem_of_getElem? (i := 3) rfl)) (fun _ h9 => h9) rfl dX8_undo_37 ?_
        refine lv_iload_n hx hb dX8_undo_40 rfl (lv_at hl 1 rfl) ?_
        refine lv_aload_n hx hb dX8_undo_41 rfl (lv_at hl 0 rfl) ?_
        refine va_get (D := D) (ci := 6) (v := .ref aMk) (C := RX8) (T := TX8) (N := 19) hx hb hts (fun _ h => List.mem_cons_of_mem _ (List.mem_append_left _ (List.mem_append_right _ h))) hown hK hP 0 rfl rfl 2 (by decide) (hts (.fieldLink RX8 16 "BarometerClubModel" "kept" "[I") (List.mem_of_getElem? (i := 4) rfl)) (fun _ h9 => h9) rfl dX8_undo_42 ?_
        refine lv_bipush (v := (55 : Int32)) hx hb dX8_undo_45 (by decide) ?_
        refine lv_aload_n hx hb dX8_undo_47 rfl (lv_at hl 0 rfl) ?_
        refine va_get (D := D) (ci := 6) (v := .int mU_30) (C := RX8) (T := TX8) (N := 19) hx hb hts (fun _ h => List.mem_cons_of_mem _ (List.mem_append_left _ (List.mem_append_right _ h))) hown hK hP 0 rfl rfl 3 (by decide) (hts (.fieldLink RX8 39 "BarometerClubModel" "undos" "I") (List.mem_of_getElem? (i := 2) rfl)) (fun _ h9 => h9) rfl dX8_undo_48 ?_
        refine lv_imul hx hb dX8_undo_51 ?_
        refine lv_iload_n hx hb dX8_undo_52 rfl (lv_at hl 1 rfl) ?_
        refine lv_iadd hx hb dX8_undo_53 ?_
        obtain ⟨g3, hF⟩ := oG hF
        refine va_iald hx hb hK hP 2 8 rfl rfl (inB_in g3) dX8_undo_54 ?_
        obtain ⟨g4, hF⟩ := oG hF
        refine va_iast hx hb hK hP hD hS 1 6 rfl rfl (inB_in g4) dX8_undo_55 (fun H locs hP hD hS => ?_)
        have hP : va_P D vwC7 [(aM, .inr (6, [.ref aMn, .ref aMt, .ref aMk, .int mU_30, .ref aMs, .int mB, .ref aMl, .int mI, .ref aMx, .int mH, .int mQ, .int mW, .ref aMd, .int mF, .int mR, .int mD, .int mJ, .int mA, .int mT_30])), (aMn, .inl (K 6, 55, .inl (upd nN_30 y30_1.toNatClampNeg (nK (((55 : Int32) * mU_30) + y30_1).toNatClampNeg)))), (aMk, .inl (K 8, 440, .inl nK))] H := hP
        have hD : va_D A [(aM, .inr (6, [.ref aMn, .ref aMt, .ref aMk, .int mU_30, .ref aMs, .int mB, .ref aMl, .int mI, .ref aMx, .int mH, .int mQ, .int mW, .ref aMd, .int mF, .int mR, .int mD, .int mJ, .int mA, .int mT_30])), (aMn, .inl (K 6, 55, .inl (upd nN_30 y30_1.toNatClampNeg (nK (((55 : Int32) * mU_30) + y30_1).toNatClampNeg)))), (aMk, .inl (K 8, 440, .inl nK))] := hD
        refine lv_iinc (v := y30_1 + (1 : Int32)) (lv' := [(1, .int (y30_1 + (1 : Int32))), (0, .ref aM)]) hx hb dX8_undo_56 hl (k := 1) rfl (by first | rfl | decide) (by decide) rfl (fun ls hl => ?_)
        refine lv_goto (tgt := 30) hx hb dX8_undo_59 (by decide) ?_
        exact ih (y30_1 + (1 : Int32)) (upd nN_30 y30_1.toNatClampNeg (nK (((55 : Int32) * mU_30) + y30_1).toNatClampNeg)) hF _ _ hP hD hS _ (lv_sub hl [1, 0] rfl)
  rw [f_X8_undo] at hF
  refine lv_aload_n hx hb dX8_undo_0 rfl (lv_at hl 0 rfl) ?_
  refine lv_iconst (v := (0 : Int32)) hx hb dX8_undo_1 (by decide) ?_
  refine va_put (D := D) (ci := 6) (v := .int (0 : Int32)) (ty := .int) (C := RX8) (T := TX8) (N := 19) hx hb hts (fun _ h => List.mem_cons_of_mem _ (List.mem_append_left _ (List.mem_append_right _ h))) tyX8 tyX8_ok nmX8 hown hK hP hD hS 0 rfl rfl 18 (by decide) (hts (.fieldLink RX8 36 "BarometerClubModel" "thrown" "I") (List.mem_of_getElem? (i := 1) rfl)) (fun _ h9 => h9) rfl (by decide +kernel) rfl rfl (Nat.le_of_ble_eq_true rfl) dX8_undo_2 (fun H locs hP hD hS => ?_)
  have hP : va_P D vwC7 [(aM, .inr (6, [.ref aMn, .ref aMt, .ref aMk, .int mU, .ref aMs, .int mB, .ref aMl, .int mI, .ref aMx, .int mH, .int mQ, .int mW, .ref aMd, .int mF, .int mR, .int mD, .int mJ, .int mA, .int (0 : Int32)])), (aMn, .inl (K 6, 55, .inl nN)), (aMk, .inl (K 8, 440, .inl nK))] H := hP
  have hD : va_D A [(aM, .inr (6, [.ref aMn, .ref aMt, .ref aMk, .int mU, .ref aMs, .int mB, .ref aMl, .int mI, .ref aMx, .int mH, .int mQ, .int mW, .ref aMd, .int mF, .int mR, .int mD, .int mJ, .int mA, .int (0 : Int32)])), (aMn, .inl (K 6, 55, .inl nN)), (aMk, .inl (K 8, 440, .inl nK))] := hD
  refine lv_aload_n hx hb dX8_undo_5 rfl (lv_at hl 0 rfl) ?_
  refine va_get (D := D) (ci := 6) (v := .int mU) (C := RX8) (T := TX8) (N := 19) hx hb hts (fun _ h => List.mem_cons_of_mem _ (List.mem_append_left _ (List.mem_append_right _ h))) hown hK hP 0 rfl rfl 3 (by decide) (hts (.fieldLink RX8 39 "BarometerClubModel" "undos" "I") (List.mem_of_getElem? (i := 2) rfl)) (fun _ h9 => h9) rfl dX8_undo_6 ?_
  refine lv_if_ne (tgt := 18) hx hb dX8_undo_9 (by decide) (fun c1 => ?_) (fun c1 => ?_)
  · have hF := oF c1 hF
    refine lv_aload_n hx hb dX8_undo_18 rfl (lv_at hl 0 rfl) ?_
    refine lv_dup hx hb dX8_undo_19 rfl ?_
    refine va_get (D := D) (ci := 6) (v := .int mU) (C := RX8) (T := TX8) (N := 19) hx hb hts (fun _ h => List.mem_cons_of_mem _ (List.mem_append_left _ (List.mem_append_right _ h))) hown hK hP 0 rfl rfl 3 (by decide) (hts (.fieldLink RX8 39 "BarometerClubModel" "undos" "I") (List.mem_of_getElem? (i := 2) rfl)) (fun _ h9 => h9) rfl dX8_undo_20 ?_
    refine lv_iconst (v := (1 : Int32)) hx hb dX8_undo_23 (by decide) ?_
    refine lv_isub hx hb dX8_undo_24 ?_
    refine va_put (D := D) (ci := 6) (v := .int (mU - (1 : Int32))) (ty := .int) (C := RX8) (T := TX8) (N := 19) hx hb hts (fun _ h => List.mem_cons_of_mem _ (List.mem_append_left _ (List.mem_append_right _ h))) tyX8 tyX8_ok nmX8 hown hK hP hD hS 0 rfl rfl 3 (by decide) (hts (.fieldLink RX8 39 "BarometerClubModel" "undos" "I") (List.mem_of_getElem? (i := 2) rfl)) (fun _ h9 => h9) rfl (by decide +kernel) rfl rfl (Nat.le_of_ble_eq_true rfl) dX8_undo_25 (fun H locs hP hD hS => ?_)
    have hP : va_P D vwC7 [(aM, .inr (6, [.ref aMn, .ref aMt, .ref aMk, .int (mU - (1 : Int32)), .ref aMs, .int mB, .ref aMl, .int mI, .ref aMx, .int mH, .int mQ, .int mW, .ref aMd, .int mF, .int mR, .int mD, .int mJ, .int mA, .int (0 : Int32)])), (aMn, .inl (K 6, 55, .inl nN)), (aMk, .inl (K 8, 440, .inl nK))] H := hP
    have hD : va_D A [(aM, .inr (6, [.ref aMn, .ref aMt, .ref aMk, .int (mU - (1 : Int32)), .ref aMs, .int mB, .ref aMl, .int mI, .ref aMx, .int mH, .int mQ, .int mW, .ref aMd, .int mF, .int mR, .int mD, .int mJ, .int mA, .int (0 : Int32)])), (aMn, .inl (K 6, 55, .inl nN)), (aMk, .inl (K 8, 440, .inl nK))] := hD
    refine lv_iconst (v := (0 : Int32)) hx hb dX8_undo_28 (by decide) ?_
    refine lv_istore_n (lv' := [(1, .int (0 : Int32)), (0, .ref aM)]) hx hb dX8_undo_29 rfl hl (by decide) rfl (fun ls hl => ?_)
    exact loop_30 (mU - (1 : Int32)) (0 : Int32) FU (0 : Int32) nN hF _ _ hP hD hS _ (lv_sub hl [1, 0] rfl)
  · have hF := oT c1 hF
    refine lv_aload_n hx hb dX8_undo_12 rfl (lv_at hl 0 rfl) ?_
    refine lv_iconst (v := (1 : Int32)) hx hb dX8_undo_13 (by decide) ?_
    obtain ⟨v5, hv5, hF⟩ := oB hF
    refine call_i (wr := [(aMn, .inl (K 6, 55, .inl nN)), (aMk, .inl (K 8, 440, .inl nK))]) (wn := [(aM, .inr (6, [.ref aMn, .ref aMt, .ref aMk, .int mU, .ref aMs, .int mB, .ref aMl, .int mI, .ref aMx, .int mH, .int mQ, .int mW, .ref aMd, .int mF, .int mR, .int mD, .int mJ, .int mA, .int v5.2])), (aMn, .inl (K 6, 55, .inl nN)), (aMk, .inl (K 8, 440, .inl nK))]) (va_runV (As := [.int (1 : Int32)]) (rest := []) ⟨hx, hb, hml, hown, hts⟩ (c_X8_raises l D K aM aMn aMt aMk aMs aMl aMx aMd mU mB mI mH mQ mW mF mR mD mJ mA (0 : Int32) (1 : Int32) v5 hv5 H.size) (cwV 1 hts gX8_undo_X8_raises rfl rfl rfl (by decide +kernel) ⟨(Nat.le_of_ble_eq_true rfl), (Nat.le_of_ble_eq_true rfl)⟩) (prV hE hK hP hD hS hA [0] rfl rfl 6 0 rfl rfl rfl) rfl rfl hl.1 rfl (lv_room (Nat.le_of_ble_eq_true rfl)) dX8_undo_14 ⟨(Nat.le_of_ble_eq_true rfl), (Nat.le_of_ble_eq_true rfl)⟩) hP hD hS hA [0] [1, 2] [2, 0, 1] rfl rfl rfl (by decide) rfl rfl (fun H locs hP hD hS => ?_)
    exact fin_i (u := (v5.1, (mU, v5.2, nN))) hF hx hb hr hlocks hK hP hD hS (Nat.le_of_ble_eq_true rfl) (Nat.le_of_ble_eq_true rfl) dX8_undo_17
abbrev RM_X8_save : Room := { frames := 0, cells := 0, slots := 0, locals := 0 }
abbrev MC_X8_save : Nat := 0
abbrev MS_X8_save : Nat := 0
abbrev wf_X8_save (K : Nat → ClassId) (aM : Nat) (aMn : Nat) (aMt : Nat) (aMk : Nat) (aMs : Nat) (aMl : Nat) (aMx : Nat) (aMd : Nat) (mU : Int32) (mI : Int32) (mH : Int32) (mQ : Int32) (mW : Int32) (mF : Int32) (mR : Int32) (mD : Int32) (mJ : Int32) (mA : Int32) (nN : Nat → Int32) (v : Int32 × Int32 × Int32 × (Nat → Int32)) : va_W := [(aM, .inr (6, [.ref aMn, .ref aMt, .ref aMk, .int mU, .ref aMs, .int v.2.1, .ref aMl, .int mI, .ref aMx, .int mH, .int mQ, .int mW, .ref aMd, .int mF, .int mR, .int mD, .int mJ, .int mA, .int v.2.2.1])), (aMn, .inl (K 6, 55, .inl nN)), (aMs, .inl (K 9, 55, .inl v.2.2.2))]
set_option maxHeartbeats 4000000 in
set_option maxRecDepth 100000 in
theorem c_X8_save (l : Launch) (D : va_G) (K : Nat → ClassId) (aM : Nat) (aMn : Nat) (aMt : Nat) (aMk : Nat) (aMs : Nat) (aMl : Nat) (aMx : Nat) (aMd : Nat) (mU : Int32) (mB : Int32) (mI : Int32) (mH : Int32) (mQ : Int32) (mW : Int32) (mF : Int32) (mR : Int32) (mD : Int32) (mJ : Int32) (mA : Int32) (mT : Int32) (nN : Nat → Int32) (nS : Nat → Int32)  (v : Int32 × Int32 × Int32 × (Nat → Int32)) (hF : f_X8_save mB mT nN nS = some v) (sz : Nat) :
    (Met l yX8_save wsX8_save RM_X8_save (PC D (TY K) [(aM, .inr (6, [.ref aMn, .ref aMt, .ref aMk, .int mU, .ref aMs, .int mB, .ref aMl, .int mI, .ref aMx, .int mH, .int mQ, .int mW, .ref aMd, .int mF, .int mR, .int mD, .int mJ, .int mA, .int mT])), (aMn, .inl (K 6, 55, .inl nN)), (aMs, .inl (K 9, 55, .inl nS))] [.ref aM] sz) (QI D (TY K) (wf_X8_save K aM aMn aMt aMk aMs aMl aMx aMd mU mI mH mQ mW mF mR mD mJ mA nN) v (va_A [(aM, .inr (6, [.ref aMn, .ref aMt, .ref aMk, .int mU, .ref aMs, .int mB, .ref aMl, .int mI, .ref aMx, .int mH, .int mQ, .int mW, .ref aMd, .int mF, .int mR, .int mD, .int mJ, .int mA, .int mT])), (aMn, .inl (K 6, 55, .inl nN)), (aMs, .inl (K 9, 55, .inl nS))] sz)) MC_X8_save MS_X8_save (va_A [(aM, .inr (6, [.ref aMn, .ref aMt, .ref aMk, .int mU, .ref aMs, .int mB, .ref aMl, .int mI, .ref aMx, .int mH, .int mQ, .int mW, .ref aMd, .int mF, .int mR, .int mD, .int mJ, .int mA, .int mT])), (aMn, .inl (K 6, 55, .inl nN)), (aMs, .inl (K 9, 55, .inl nS))] sz)) := by
  refine pro (Qf := fun A => QI D (TY K) (wf_X8_save K aM aMn aMt aMk aMs aMl aMx aMd mU mI mH mQ mW mF mR mD mJ mA nN) v A) (cc := cX8_save) (maxL := 2) (ret := (some .int)) (by decide +kernel) rfl (Nat.le_of_ble_eq_true rfl) ?_
  intro p e s m args below meth c hx hb hr hts hown hlocks hml hini hK A hA hE hP hD hS ls hl
  have hown : s.vm.findClass RX8 = some m.cls := hown
  have hl : lv_has ls 2 [(0, .ref aM)] := hl
  have loop_12 : ∀ (mB_12 : Int32) (mT_12 : Int32) (n : Nat) (y12_1 : Int32) (nS_12 : Nat → Int32), f_X8_save_L12 nN mB_12 mT_12 n y12_1 nS_12 = some v → ∀ (H : Heap) (locs : List Loc), va_P D vwC7 [(aM, .inr (6, [.ref aMn, .ref aMt, .ref aMk, .int mU, .ref aMs, .int mB_12, .ref aMl, .int mI, .ref aMx, .int mH, .int mQ, .int mW, .ref aMd, .int mF, .int mR, .int mD, .int mJ, .int mA, .int mT_12])), (aMn, .inl (K 6, 55, .inl nN)), (aMs, .inl (K 9, 55, .inl nS_12))] H → va_D A [(aM, .inr (6, [.ref aMn, .ref aMt, .ref aMk, .int mU, .ref aMs, .int mB_12, .ref aMl, .int mI, .ref aMx, .int mH, .int mQ, .int mW, .ref aMd, .int mF, .int mR, .int mD, .int mJ, .int mA, .int mT_12])), (aMn, .inl (K 6, 55, .inl nN)), (aMs, .inl (K 9, 55, .inl nS_12))] → va_S A s.heap H locs → ∀ ls : Array Slot, lv_has ls 2 [(0, .ref aM), (1, .int y12_1)] → W p l e RM_X8_save s m args below meth c H locs 0 0 (MQ below (QI D (TY K) (wf_X8_save K aM aMn aMt aMk aMs aMl aMx aMd mU mI mH mQ mW mF mR mD mJ mA nN) v A) args s MC_X8_save MS_X8_save A) (F0 m 12 ls []) := by
    intro mB_12 mT_12 n
    induction n with
    | zero =>
      intro y12_1 nS_12 hF
      exact nomatch hF
    | succ n ih =>
      intro y12_1 nS_12 hF H locs hP hD hS ls hl
      rw [f_X8_save_L12.eq_2] at hF
      refine lv_iload_n hx hb dX8_save_12 rfl (lv_at hl 1 rfl) ?_
      refine lv_bipush (v := (55 : Int32)) hx hb dX8_save_13 (by decide) ?_
      refine lv_icmp_ge (tgt := 36) hx hb dX8_save_15 (by decide) (fun c1 => ?_) (fun c1 => ?_)
      · have hF := oT c1 hF
        refine lv_aload_n hx hb dX8_save_36 rfl (lv_at hl 0 rfl) ?_
        refine va_get (D := D) (ci := 6) (v := .ref aMn) (C := RX8) (T := TX8) (N := 19) hx hb hts (fun _ h => List.mem_cons_of_mem _ (List.mem_append_left _ (List.mem_append_right _ h))) hown hK hP 0 rfl rfl 0 (by decide) (hts (.fieldLink RX8 9 "BarometerClubModel" "now" "[I") (List.mem_of_getElem? (i := 4) rfl)) (fun _ h9 => h9) rfl dX8_save_37 ?_
        refine lv_iconst (v := (0 : Int32)) hx hb dX8_save_40 (by decide) ?_
        refine va_iald hx hb hK hP 1 6 rfl rfl (inB_in (by decide : inB (0 : Int32) 55 = true)) dX8_save_41 ?_
        exact fin_i (u := (nN (0 : Int32).toNatClampNeg, (mB_12, mT_12, nS_12))) hF hx hb hr hlocks hK hP hD hS (Nat.le_of_ble_eq_true rfl) (Nat.le_of_ble_eq_true rfl) dX8_save_42
      · have hF := oF c1 hF
        refine lv_aload_n hx hb dX8_save_18 rfl (lv_at hl 0 rfl) ?_
        refine va_get (D := D) (ci := 6) (v := .ref aMs) (C := RX8) (T := TX8) (N := 19) hx hb hts (fun _ h => List.mem_cons_of_mem _ (List.mem_append_left _ (List.mem_append_right _ h))) hown hK hP 0 rfl rfl 4 (by decide) (hts (.fieldLink RX8 19 "BarometerClubModel" "saved" "[I") (List.mem_of_getElem? (i := 3) rfl)) (fun _ h9 => h9) rfl dX8_save_19 ?_
        refine lv_iload_n hx hb dX8_save_22 rfl (lv_at hl 1 rfl) ?_
        refine lv_aload_n hx hb dX8_save_23 rfl (lv_at hl 0 rfl) ?_
        refine va_get (D := D) (ci := 6) (v := .ref aMn) (C := RX8) (T := TX8) (N := 19) hx hb hts (fun _ h => List.mem_cons_of_mem _ (List.mem_append_left _ (List.mem_append_right _ h))) hown hK hP 0 rfl rfl 0 (by decide) (hts (.fieldLink RX8 9 "BarometerClubModel" "now" "[I") (List.mem_of_getElem? (i := 4) rfl)) (fun _ h9 => h9) rfl dX8_save_24 ?_
        refine lv_iload_n hx hb dX8_save_27 rfl (lv_at hl 1 rfl) ?_
        obtain ⟨g2, hF⟩ := oG hF
        refine va_iald hx hb hK hP 1 6 rfl rfl (inB_in g2) dX8_save_28 ?_
        obtain ⟨g3, hF⟩ := oG hF
        refine va_iast hx hb hK hP hD hS 2 9 rfl rfl (inB_in g3) dX8_save_29 (fun H locs hP hD hS => ?_)
        have hP : va_P D vwC7 [(aM, .inr (6, [.ref aMn, .ref aMt, .ref aMk, .int mU, .ref aMs, .int mB_12, .ref aMl, .int mI, .ref aMx, .int mH, .int mQ, .int mW, .ref aMd, .int mF, .int mR, .int mD, .int mJ, .int mA, .int mT_12])), (aMn, .inl (K 6, 55, .inl nN)), (aMs, .inl (K 9, 55, .inl (upd nS_12 y12_1.toNatClampNeg (nN y12_1.toNatClampNeg))))] H := hP
        have hD : va_D A [(aM, .inr (6, [.ref aMn, .ref aMt, .ref aMk, .int mU, .ref aMs, .int mB_12, .ref aMl, .int mI, .ref aMx, .int mH, .int mQ, .int mW, .ref aMd, .int mF, .int mR, .int mD, .int mJ, .int mA, .int mT_12])), (aMn, .inl (K 6, 55, .inl nN)), (aMs, .inl (K 9, 55, .inl (upd nS_12 y12_1.toNatClampNeg (nN y12_1.toNatClampNeg))))] := hD
        refine lv_iinc (v := y12_1 + (1 : Int32)) (lv' := [(1, .int (y12_1 + (1 : Int32))), (0, .ref aM)]) hx hb dX8_save_30 hl (k := 1) rfl (by first | rfl | decide) (by decide) rfl (fun ls hl => ?_)
        refine lv_goto (tgt := 12) hx hb dX8_save_33 (by decide) ?_
        exact ih (y12_1 + (1 : Int32)) (upd nS_12 y12_1.toNatClampNeg (nN y12_1.toNatClampNeg)) hF _ _ hP hD hS _ (lv_sub hl [1, 0] rfl)
  rw [f_X8_save] at hF
  refine lv_aload_n hx hb dX8_save_0 rfl (lv_at hl 0 rfl) ?_
  refine lv_iconst (v := (0 : Int32)) hx hb dX8_save_1 (by decide) ?_
  refine va_put (D := D) (ci := 6) (v := .int (0 : Int32)) (ty := .int) (C := RX8) (T := TX8) (N := 19) hx hb hts (fun _ h => List.mem_cons_of_mem _ (List.mem_append_left _ (List.mem_append_right _ h))) tyX8 tyX8_ok nmX8 hown hK hP hD hS 0 rfl rfl 18 (by decide) (hts (.fieldLink RX8 36 "BarometerClubModel" "thrown" "I") (List.mem_of_getElem? (i := 1) rfl)) (fun _ h9 => h9) rfl (by decide +kernel) rfl rfl (Nat.le_of_ble_eq_true rfl) dX8_save_2 (fun H locs hP hD hS => ?_)
  have hP : va_P D vwC7 [(aM, .inr (6, [.ref aMn, .ref aMt, .ref aMk, .int mU, .ref aMs, .int mB, .ref aMl, .int mI, .ref aMx, .int mH, .int mQ, .int mW, .ref aMd, .int mF, .int mR, .int mD, .int mJ, .int mA, .int (0 : Int32)])), (aMn, .inl (K 6, 55, .inl nN)), (aMs, .inl (K 9, 55, .inl nS))] H := hP
  have hD : va_D A [(aM, .inr (6, [.ref aMn, .ref aMt, .ref aMk, .int mU, .ref aMs, .int mB, .ref aMl, .int mI, .ref aMx, .int mH, .int mQ, .int mW, .ref aMd, .int mF, .int mR, .int mD, .int mJ, .int mA, .int (0 : Int32)])), (aMn, .inl (K 6, 55, .inl nN)), (aMs, .inl (K 9, 55, .inl nS))] := hD
  refine lv_aload_n hx hb dX8_save_5 rfl (lv_at hl 0 rfl) ?_
  refine lv_iconst (v := (1 : Int32)) hx hb dX8_save_6 (by decide) ?_
  refine va_put (D := D) (ci := 6) (v := .int (1 : Int32)) (ty := .boolean) (C := RX8) (T := TX8) (N := 19) hx hb hts (fun _ h => List.mem_cons_of_mem _ (List.mem_append_left _ (List.mem_append_right _ h))) tyX8 tyX8_ok nmX8 hown hK hP hD hS 0 rfl rfl 5 (by decide) (hts (.fieldLink RX8 223 "BarometerClubModel" "isSaved" "Z") (List.mem_of_getElem? (i := 2) rfl)) (fun _ h9 => h9) rfl (by decide +kernel) rfl rfl (Nat.le_of_ble_eq_true rfl) dX8_save_7 (fun H locs hP hD hS => ?_)
  have hP : va_P D vwC7 [(aM, .inr (6, [.ref aMn, .ref aMt, .ref aMk, .int mU, .ref aMs, .int (1 : Int32), .ref aMl, .int mI, .ref aMx, .int mH, .int mQ, .int mW, .ref aMd, .int mF, .int mR, .int mD, .int mJ, .int mA, .int (0 : Int32)])), (aMn, .inl (K 6, 55, .inl nN)), (aMs, .inl (K 9, 55, .inl nS))] H := hP
  have hD : va_D A [(aM, .inr (6, [.ref aMn, .ref aMt, .ref aMk, .int mU, .ref aMs, .int (1 : Int32), .ref aMl, .int mI, .ref aMx, .int mH, .int mQ, .int mW, .ref aMd, .int mF, .int mR, .int mD, .int mJ, .int mA, .int (0 : Int32)])), (aMn, .inl (K 6, 55, .inl nN)), (aMs, .inl (K 9, 55, .inl nS))] := hD
  refine lv_iconst (v := (0 : Int32)) hx hb dX8_save_10 (by decide) ?_
  refine lv_istore_n (lv' := [(1, .int (0 : Int32)), (0, .ref aM)]) hx hb dX8_save_11 rfl hl (by decide) rfl (fun ls hl => ?_)
  exact loop_12 (1 : Int32) (0 : Int32) FU (0 : Int32) nS hF _ _ hP hD hS _ (lv_sub hl [1, 0] rfl)
abbrev RM_X8_restore : Room := { frames := 1, cells := 0, slots := 0, locals := 21 }
abbrev MC_X8_restore : Nat := 0
abbrev MS_X8_restore : Nat := 0
abbrev wf_X8_restore (K : Nat → ClassId) (aM : Nat) (aMn : Nat) (aMt : Nat) (aMk : Nat) (aMs : Nat) (aMl : Nat) (aMx : Nat) (aMd : Nat) (mB : Int32) (mI : Int32) (mH : Int32) (mQ : Int32) (mW : Int32) (mF : Int32) (mR : Int32) (mD : Int32) (mJ : Int32) (mA : Int32) (nS : Nat → Int32) (v : Int32 × Int32 × Int32 × (Nat → Int32)) : va_W := [(aM, .inr (6, [.ref aMn, .ref aMt, .ref aMk, .int v.2.1, .ref aMs, .int mB, .ref aMl, .int mI, .ref aMx, .int mH, .int mQ, .int mW, .ref aMd, .int mF, .int mR, .int mD, .int mJ, .int mA, .int v.2.2.1])), (aMn, .inl (K 6, 55, .inl v.2.2.2)), (aMs, .inl (K 9, 55, .inl nS))]
set_option maxHeartbeats 4000000 in
set_option maxRecDepth 100000 in
theorem c_X8_restore (l : Launch) (D : va_G) (K : Nat → ClassId) (aM : Nat) (aMn : Nat) (aMt : Nat) (aMk : Nat) (aMs : Nat) (aMl : Nat) (aMx : Nat) (aMd : Nat) (mU : Int32) (mB : Int32) (mI : Int32) (mH : Int32) (mQ : Int32) (mW : Int32) (mF : Int32) (mR : Int32) (mD : Int32) (mJ : Int32) (mA : Int32) (mT : Int32) (nN : Nat → Int32) (nS : Nat → Int32)  (v : Int32 × Int32 × Int32 × (Nat → Int32)) (hF : f_X8_restore mU mB mT nN nS = some v) (sz : Nat) :
    (Met l yX8_restore wsX8_restore RM_X8_restore (PC D (TY K) [(aM, .inr (6, [.ref aMn, .ref aMt, .ref aMk, .int mU, .ref aMs, .int mB, .ref aMl, .int mI, .ref aMx, .int mH, .int mQ, .int mW, .ref aMd, .int mF, .int mR, .int mD, .int mJ, .int mA, .int mT])), (aMn, .inl (K 6, 55, .inl nN)), (aMs, .inl (K 9, 55, .inl nS))] [.ref aM] sz) (QI D (TY K) (wf_X8_restore K aM aMn aMt aMk aMs aMl aMx aMd mB mI mH mQ mW mF mR mD mJ mA nS) v (va_A [(aM, .inr (6, [.ref aMn, .ref aMt, .ref aMk, .int mU, .ref aMs, .int mB, .ref aMl, .int mI, .ref aMx, .int mH, .int mQ, .int mW, .ref aMd, .int mF, .int mR, .int mD, .int mJ, .int mA, .int mT])), (aMn, .inl (K 6, 55, .inl nN)), (aMs, .inl (K 9, 55, .inl nS))] sz)) MC_X8_restore MS_X8_restore (va_A [(aM, .inr (6, [.ref aMn, .ref aMt, .ref aMk, .int mU, .ref aMs, .int mB, .ref aMl, .int mI, .ref aMx, .int mH, .int mQ, .int mW, .ref aMd, .int mF, .int mR, .int mD, .int mJ, .int mA, .int mT])), (aMn, .inl (K 6, 55, .inl nN)), (aMs, .inl (K 9, 55, .inl nS))] sz)) := by
  refine pro (Qf := fun A => QI D (TY K) (wf_X8_restore K aM aMn aMt aMk aMs aMl aMx aMd mB mI mH mQ mW mF mR mD mJ mA nS) v A) (cc := cX8_restore) (maxL := 2) (ret := (some .int)) (by decide +kernel) rfl (Nat.le_of_ble_eq_true rfl) ?_
  intro p e s m args below meth c hx hb hr hts hown hlocks hml hini hK A hA hE hP hD hS ls hl
  have hown : s.vm.findClass RX8 = some m.cls := hown
  have hl : lv_has ls 2 [(0, .ref aM)] := hl
  have loop_20 : ∀ (mU_20 : Int32) (mT_20 : Int32) (n : Nat) (y20_1 : Int32) (nN_20 : Nat → Int32), f_X8_restore_L20 nS mT_20 n y20_1 nN_20 = some v → ∀ (H : Heap) (locs : List Loc), va_P D vwC7 [(aM, .inr (6, [.ref aMn, .ref aMt, .ref aMk, .int mU_20, .ref aMs, .int mB, .ref aMl, .int mI, .ref aMx, .int mH, .int mQ, .int mW, .ref aMd, .int mF, .int mR, .int mD, .int mJ, .int mA, .int mT_20])), (aMn, .inl (K 6, 55, .inl nN_20)), (aMs, .inl (K 9, 55, .inl nS))] H → va_D A [(aM, .inr (6, [.ref aMn, .ref aMt, .ref aMk, .int mU_20, .ref aMs, .int mB, .ref aMl, .int mI, .ref aMx, .int mH, .int mQ, .int mW, .ref aMd, .int mF, .int mR, .int mD, .int mJ, .int mA, .int mT_20])), (aMn, .inl (K 6, 55, .inl nN_20)), (aMs, .inl (K 9, 55, .inl nS))] → va_S A s.heap H locs → ∀ ls : Array Slot, lv_has ls 2 [(0, .ref aM), (1, .int y20_1)] → W p l e RM_X8_restore s m args below meth c H locs 0 0 (MQ below (QI D (TY K) (wf_X8_restore K aM aMn aMt aMk aMs aMl aMx aMd mB mI mH mQ mW mF mR mD mJ mA nS) v A) args s MC_X8_restore MS_X8_restore A) (F0 m 20 ls []) := by
    intro mU_20 mT_20 n
    induction n with
    | zero =>
      intro y20_1 nN_20 hF
      exact nomatch hF
    | succ n ih =>
      intro y20_1 nN_20 hF H locs hP hD hS ls hl
      rw [f_X8_restore_L20.eq_2] at hF
      refine lv_iload_n hx hb dX8_restore_20 rfl (lv_at hl 1 rfl) ?_
      refine lv_bipush (v := (55 : Int32)) hx hb dX8_restore_21 (by decide) ?_
      refine lv_icmp_ge (tgt := 44) hx hb dX8_restore_23 (by decide) (fun c2 => ?_) (fun c2 => ?_)
      · have hF := oT c2 hF
        refine lv_aload_n hx hb dX8_restore_44 rfl (lv_at hl 0 rfl) ?_
        refine lv_iconst (v := (0 : Int32)) hx hb dX8_restore_45 (by decide) ?_
        refine va_put (D := D) (ci := 6) (v := .int (0 : Int32)) (ty := .int) (C := RX8) (T := TX8) (N := 19) hx hb hts (fun _ h => List.mem_cons_of_mem _ (List.mem_append_left _ (List.mem_append_right _ h))) tyX8 tyX8_ok nmX8 hown hK hP hD hS 0 rfl rfl 3 (by decide) (hts (.fieldLink RX8 39 "BarometerClubModel" "undos" "I") (List.mem_of_getElem? (i := 5) rfl)) (fun _ h9 => h9) rfl (by decide +kernel) rfl rfl (Nat.le_of_ble_eq_true rfl) dX8_restore_46 (fun H locs hP hD hS => ?_)
        have hP : va_P D vwC7 [(aM, .inr (6, [.ref aMn, .ref aMt, .ref aMk, .int (0 : Int32), .ref aMs, .int mB, .ref aMl, .int mI, .ref aMx, .int mH, .int mQ, .int mW, .ref aMd, .int mF, .int mR, .int mD, .int mJ, .int mA, .int mT_20])), (aMn, .inl (K 6, 55, .inl nN_20)), (aMs, .inl (K 9, 55, .inl nS))] H := hP
        have hD : va_D A [(aM, .inr (6, [.ref aMn, .ref aMt, .ref aMk, .int (0 : Int32), .ref aMs, .int mB, .ref aMl, .int mI, .ref aMx, .int mH, .int mQ, .int mW, .ref aMd, .int mF, .int mR, .int mD, .int mJ, .int mA, .int mT_20])), (aMn, .inl (K 6, 55, .inl nN_20)), (aMs, .inl (K 9, 55, .inl nS))] := hD
        refine lv_aload_n hx hb dX8_restore_49 rfl (lv_at hl 0 rfl) ?_
        refine va_get (D := D) (ci := 6) (v := .ref aMn) (C := RX8) (T := TX8) (N := 19) hx hb hts (fun _ h => List.mem_cons_of_mem _ (List.mem_append_left _ (List.mem_append_right _ h))) hown hK hP 0 rfl rfl 0 (by decide) (hts (.fieldLink RX8 9 "BarometerClubModel" "now" "[I") (List.mem_of_getElem? (i := 3) rfl)) (fun _ h9 => h9) rfl dX8_restore_50 ?_
        refine lv_iconst (v := (0 : Int32)) hx hb dX8_restore_53 (by decide) ?_
        refine va_iald hx hb hK hP 1 6 rfl rfl (inB_in (by decide : inB (0 : Int32) 55 = true)) dX8_restore_54 ?_
        exact fin_i (u := (nN_20 (0 : Int32).toNatClampNeg, ((0 : Int32), mT_20, nN_20))) hF hx hb hr hlocks hK hP hD hS (Nat.le_of_ble_eq_true rfl) (Nat.le_of_ble_eq_true rfl) dX8_restore_55
      · have hF := oF c2 hF
        refine lv_aload_n hx hb dX8_restore_26 rfl (lv_at hl 0 rfl) ?_
        refine va_get (D := D) (ci := 6) (v := .ref aMn) (C := RX8) (T := TX8) (N := 19) hx hb hts (fun _ h => List.mem_cons_of_mem _ (List.mem_append_left _ (List.mem_append_right _ h))) hown hK hP 0 rfl rfl 0 (by decide) (hts (.fieldLink RX8 9 "BarometerClubModel" "now" "[I") (List.mem_of_getElem? (i := 3) rfl)) (fun _ h9 => h9) rfl dX8_restore_27 ?_
        refine lv_iload_n hx hb dX8_restore_30 rfl (lv_at hl 1 rfl) ?_
        refine lv_aload_n hx hb dX8_restore_31 rfl (lv_at hl 0 rfl) ?_
        refine va_get (D := D) (ci := 6) (v := .ref aMs) (C := RX8) (T := TX8) (N := 19) hx hb hts (fun _ h => List.mem_cons_of_mem _ (List.mem_append_left _ (List.mem_append_right _ h))) hown hK hP 0 rfl rfl 4 (by decide) (hts (.fieldLink RX8 19 "BarometerClubModel" "saved" "[I") (List.mem_of_getElem? (i := 4) rfl)) (fun _ h9 => h9) rfl dX8_restore_32 ?_
        refine lv_iload_n hx hb dX8_restore_35 rfl (lv_at hl 1 rfl) ?_
        obtain ⟨g3, hF⟩ := oG hF
        refine va_iald hx hb hK hP 2 9 rfl rfl (inB_in g3) dX8_restore_36 ?_
        obtain ⟨g4, hF⟩ := oG hF
        refine va_iast hx hb hK hP hD hS 1 6 rfl rfl (inB_in g4) dX8_restore_37 (fun H locs hP hD hS => ?_)
        have hP : va_P D vwC7 [(aM, .inr (6, [.ref aMn, .ref aMt, .ref aMk, .int mU_20, .ref aMs, .int mB, .ref aMl, .int mI, .ref aMx, .int mH, .int mQ, .int mW, .ref aMd, .int mF, .int mR, .int mD, .int mJ, .int mA, .int mT_20])), (aMn, .inl (K 6, 55, .inl (upd nN_20 y20_1.toNatClampNeg (nS y20_1.toNatClampNeg)))), (aMs, .inl (K 9, 55, .inl nS))] H := hP
        have hD : va_D A [(aM, .inr (6, [.ref aMn, .ref aMt, .ref aMk, .int mU_20, .ref aMs, .int mB, .ref aMl, .int mI, .ref aMx, .int mH, .int mQ, .int mW, .ref aMd, .int mF, .int mR, .int mD, .int mJ, .int mA, .int mT_20])), (aMn, .inl (K 6, 55, .inl (upd nN_20 y20_1.toNatClampNeg (nS y20_1.toNatClampNeg)))), (aMs, .inl (K 9, 55, .inl nS))] := hD
        refine lv_iinc (v := y20_1 + (1 : Int32)) (lv' := [(1, .int (y20_1 + (1 : Int32))), (0, .ref aM)]) hx hb dX8_restore_38 hl (k := 1) rfl (by first | rfl | decide) (by decide) rfl (fun ls hl => ?_)
        refine lv_goto (tgt := 20) hx hb dX8_restore_41 (by decide) ?_
        exact ih (y20_1 + (1 : Int32)) (upd nN_20 y20_1.toNatClampNeg (nS y20_1.toNatClampNeg)) hF _ _ hP hD hS _ (lv_sub hl [1, 0] rfl)
  rw [f_X8_restore] at hF
  refine lv_aload_n hx hb dX8_restore_0 rfl (lv_at hl 0 rfl) ?_
  refine lv_iconst (v := (0 : Int32)) hx hb dX8_restore_1 (by decide) ?_
  refine va_put (D := D) (ci := 6) (v := .int (0 : Int32)) (ty := .int) (C := RX8) (T := TX8) (N := 19) hx hb hts (fun _ h => List.mem_cons_of_mem _ (List.mem_append_left _ (List.mem_append_right _ h))) tyX8 tyX8_ok nmX8 hown hK hP hD hS 0 rfl rfl 18 (by decide) (hts (.fieldLink RX8 36 "BarometerClubModel" "thrown" "I") (List.mem_of_getElem? (i := 1) rfl)) (fun _ h9 => h9) rfl (by decide +kernel) rfl rfl (Nat.le_of_ble_eq_true rfl) dX8_restore_2 (fun H locs hP hD hS => ?_)
  have hP : va_P D vwC7 [(aM, .inr (6, [.ref aMn, .ref aMt, .ref aMk, .int mU, .ref aMs, .int mB, .ref aMl, .int mI, .ref aMx, .int mH, .int mQ, .int mW, .ref aMd, .int mF, .int mR, .int mD, .int mJ, .int mA, .int (0 : Int32)])), (aMn, .inl (K 6, 55, .inl nN)), (aMs, .inl (K 9, 55, .inl nS))] H := hP
  have hD : va_D A [(aM, .inr (6, [.ref aMn, .ref aMt, .ref aMk, .int mU, .ref aMs, .int mB, .ref aMl, .int mI, .ref aMx, .int mH, .int mQ, .int mW, .ref aMd, .int mF, .int mR, .int mD, .int mJ, .int mA, .int (0 : Int32)])), (aMn, .inl (K 6, 55, .inl nN)), (aMs, .inl (K 9, 55, .inl nS))] := hD
  refine lv_aload_n hx hb dX8_restore_5 rfl (lv_at hl 0 rfl) ?_
  refine va_get (D := D) (ci := 6) (v := .int mB) (C := RX8) (T := TX8) (N := 19) hx hb hts (fun _ h => List.mem_cons_of_mem _ (List.mem_append_left _ (List.mem_append_right _ h))) hown hK hP 0 rfl rfl 5 (by decide) (hts (.fieldLink RX8 223 "BarometerClubModel" "isSaved" "Z") (List.mem_of_getElem? (i := 2) rfl)) (fun _ h9 => h9) rfl dX8_restore_6 ?_
  refine lv_if_ne (tgt := 18) hx hb dX8_restore_9 (by decide) (fun c1 => ?_) (fun c1 => ?_)
  · have hF := oF c1 hF
    refine lv_iconst (v := (0 : Int32)) hx hb dX8_restore_18 (by decide) ?_
    refine lv_istore_n (lv' := [(1, .int (0 : Int32)), (0, .ref aM)]) hx hb dX8_restore_19 rfl hl (by decide) rfl (fun ls hl => ?_)
    exact loop_20 mU (0 : Int32) FU (0 : Int32) nN hF _ _ hP hD hS _ (lv_sub hl [1, 0] rfl)
  · have hF := oT c1 hF
    refine lv_aload_n hx hb dX8_restore_12 rfl (lv_at hl 0 rfl) ?_
    refine lv_iconst (v := (1 : Int32)) hx hb dX8_restore_13 (by decide) ?_
    obtain ⟨v5, hv5, hF⟩ := oB hF
    refine call_i (wr := [(aMn, .inl (K 6, 55, .inl nN)), (aMs, .inl (K 9, 55, .inl nS))]) (wn := [(aM, .inr (6, [.ref aMn, .ref aMt, .ref aMk, .int mU, .ref aMs, .int mB, .ref aMl, .int mI, .ref aMx, .int mH, .int mQ, .int mW, .ref aMd, .int mF, .int mR, .int mD, .int mJ, .int mA, .int v5.2])), (aMn, .inl (K 6, 55, .inl nN)), (aMs, .inl (K 9, 55, .inl nS))]) (va_runV (As := [.int (1 : Int32)]) (rest := []) ⟨hx, hb, hml, hown, hts⟩ (c_X8_raises l D K aM aMn aMt aMk aMs aMl aMx aMd mU mB mI mH mQ mW mF mR mD mJ mA (0 : Int32) (1 : Int32) v5 hv5 H.size) (cwV 1 hts gX8_restore_X8_raises rfl rfl rfl (by decide +kernel) ⟨(Nat.le_of_ble_eq_true rfl), (Nat.le_of_ble_eq_true rfl)⟩) (prV hE hK hP hD hS hA [0] rfl rfl 6 0 rfl rfl rfl) rfl rfl hl.1 rfl (lv_room (Nat.le_of_ble_eq_true rfl)) dX8_restore_14 ⟨(Nat.le_of_ble_eq_true rfl), (Nat.le_of_ble_eq_true rfl)⟩) hP hD hS hA [0] [1, 2] [2, 0, 1] rfl rfl rfl (by decide) rfl rfl (fun H locs hP hD hS => ?_)
    exact fin_i (u := (v5.1, (mU, v5.2, nN))) hF hx hb hr hlocks hK hP hD hS (Nat.le_of_ble_eq_true rfl) (Nat.le_of_ble_eq_true rfl) dX8_restore_17
