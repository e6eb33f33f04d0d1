abbrev RM_X8_off : Room := { frames := 2, cells := 0, slots := 0, locals := 44 }
abbrev MC_X8_off : Nat := 0
abbrev MS_X8_off : Nat := 0
abbrev wf_X8_off (K : Nat → ClassId) (aM : Nat) (aMn : Nat) (aMt : Nat) (aMk : Nat) (aMs : Nat) (aMl : Nat) (aMx : Nat) (aMd : Nat) (mU : Int32) (mB : Int32) (mI : Int32) (mH : Int32) (mQ : Int32) (mW : Int32) (mF : Int32) (mR : Int32) (mD : Int32) (mJ : Int32) (mA : Int32) (nN : Nat → Int32) (v : Int32 × Int32) : va_W := [(aM, .inr (6, [.ref aMn, .ref aMt, .ref aMk, .int mU, .ref aMs, .int mB, .ref aMl, .int mI, .ref aMx, .int mH, .int mQ, .int mW, .ref aMd, .int mF, .int mR, .int mD, .int mJ, .int mA, .int v.2])), (aMn, .inl (K 6, 55, .inl nN))]
set_option maxHeartbeats 4000000 in
set_option maxRecDepth 100000 in
theorem c_X8_off (l : Launch) (D : va_G) (K : Nat → ClassId) (aM : Nat) (aMn : Nat) (aMt : Nat) (aMk : Nat) (aMs : Nat) (aMl : Nat) (aMx : Nat) (aMd : Nat) (mU : Int32) (mB : Int32) (mI : Int32) (mH : Int32) (mQ : Int32) (mW : Int32) (mF : Int32) (mR : Int32) (mD : Int32) (mJ : Int32) (mA : Int32) (mT : Int32) (nN : Nat → Int32) (p1 : Int32) (v : Int32 × Int32) (hF : f_X8_off mT nN p1 = some v) (sz : Nat) :
    (Met l yX8_off wsX8_off RM_X8_off (PC D (TY K) [(aM, .inr (6, [.ref aMn, .ref aMt, .ref aMk, .int mU, .ref aMs, .int mB, .ref aMl, .int mI, .ref aMx, .int mH, .int mQ, .int mW, .ref aMd, .int mF, .int mR, .int mD, .int mJ, .int mA, .int mT])), (aMn, .inl (K 6, 55, .inl nN))] [.ref aM, .int p1] sz) (QI D (TY K) (wf_X8_off K aM aMn aMt aMk aMs aMl aMx aMd mU mB mI mH mQ mW mF mR mD mJ mA nN) v (va_A [(aM, .inr (6, [.ref aMn, .ref aMt, .ref aMk, .int mU, .ref aMs, .int mB, .ref aMl, .int mI, .ref aMx, .int mH, .int mQ, .int mW, .ref aMd, .int mF, .int mR, .int mD, .int mJ, .int mA, .int mT])), (aMn, .inl (K 6, 55, .inl nN))] sz)) MC_X8_off MS_X8_off (va_A [(aM, .inr (6, [.ref aMn, .ref aMt, .ref aMk, .int mU, .ref aMs, .int mB, .ref aMl, .int mI, .ref aMx, .int mH, .int mQ, .int mW, .ref aMd, .int mF, .int mR, .int mD, .int mJ, .int mA, .int mT])), (aMn, .inl (K 6, 55, .inl nN))] sz)) := by
  refine pro (Qf := fun A => QI D (TY K) (wf_X8_off K aM aMn aMt aMk aMs aMl aMx aMd mU mB mI mH mQ mW mF mR mD mJ mA nN) v A) (cc := cX8_off) (maxL := 2) (ret := (some .int)) (by decide +kernel) rfl (Nat.le_of_ble_eq_true rfl) ?_
  intro p e s m args below meth c hx hb hr hts hown hlocks hml hini hK A hA hE hP hD hS ls hl
  have hown : s.vm.findClass RX8 = some m.cls := hown
  have hl : lv_has ls 2 [(0, .ref aM), (1, .int p1)] := hl
  rw [f_X8_off] at hF
  refine lv_aload_n hx hb dX8_off_0 rfl (lv_at hl 0 rfl) ?_
  refine lv_iconst (v := (0 : Int32)) hx hb dX8_off_1 (by decide) ?_
  refine va_put (D := D) (ci := 6) (v := .int (0 : Int32)) (ty := .int) (C := RX8) (T := TX8) (N := 19) hx hb hts (fun _ h => List.mem_cons_of_mem _ (List.mem_append_left _ (List.mem_append_right _ h))) tyX8 tyX8_ok nmX8 hown hK hP hD hS 0 rfl rfl 18 (by decide) (hts (.fieldLink RX8 36 "BarometerClubModel" "thrown" "I") (List.mem_of_getElem? (i := 1) rfl)) (fun _ h9 => h9) rfl (by decide +kernel) rfl rfl (Nat.le_of_ble_eq_true rfl) dX8_off_2 (fun H locs hP hD hS => ?_)
  have hP : va_P D vwC7 [(aM, .inr (6, [.ref aMn, .ref aMt, .ref aMk, .int mU, .ref aMs, .int mB, .ref aMl, .int mI, .ref aMx, .int mH, .int mQ, .int mW, .ref aMd, .int mF, .int mR, .int mD, .int mJ, .int mA, .int (0 : Int32)])), (aMn, .inl (K 6, 55, .inl nN))] H := hP
  have hD : va_D A [(aM, .inr (6, [.ref aMn, .ref aMt, .ref aMk, .int mU, .ref aMs, .int mB, .ref aMl, .int mI, .ref aMx, .int mH, .int mQ, .int mW, .ref aMd, .int mF, .int mR, .int mD, .int mJ, .int mA, .int (0 : Int32)])), (aMn, .inl (K 6, 55, .inl nN))] := hD
  refine lv_aload_n hx hb dX8_off_5 rfl (lv_at hl 0 rfl) ?_
  refine lv_iload_n hx hb dX8_off_6 rfl (lv_at hl 1 rfl) ?_
  obtain ⟨v1, hv1, hF⟩ := oB hF
  refine call_i (wr := []) (wn := [(aM, .inr (6, [.ref aMn, .ref aMt, .ref aMk, .int mU, .ref aMs, .int mB, .ref aMl, .int mI, .ref aMx, .int mH, .int mQ, .int mW, .ref aMd, .int mF, .int mR, .int mD, .int mJ, .int mA, .int (0 : Int32)])), (aMn, .inl (K 6, 55, .inl nN))]) (va_runV (As := [.int p1]) (rest := []) ⟨hx, hb, hml, hown, hts⟩ (c_X8_isMember l D K aM aMn aMt aMk aMs aMl aMx aMd mU mB mI mH mQ mW mF mR mD mJ mA (0 : Int32) nN p1 v1 hv1 H.size) (cwV 1 hts gX8_off_X8_isMember rfl rfl rfl (by decide +kernel) ⟨(Nat.le_of_ble_eq_true rfl), (Nat.le_of_ble_eq_true rfl)⟩) (prV hE hK hP hD hS hA [0, 1] rfl rfl 6 0 rfl rfl rfl) rfl rfl hl.1 rfl (lv_room (Nat.le_of_ble_eq_true rfl)) dX8_off_7 ⟨(Nat.le_of_ble_eq_true rfl), (Nat.le_of_ble_eq_true rfl)⟩) hP hD hS hA [0, 1] [] [0, 1] rfl rfl rfl (by decide) rfl rfl (fun H locs hP hD hS => ?_)
  refine lv_if_ne (tgt := 19) hx hb dX8_off_10 (by decide) (fun c2 => ?_) (fun c2 => ?_)
  · have hF := oF c2 hF
    refine lv_aload_n hx hb dX8_off_19 rfl (lv_at hl 0 rfl) ?_
    refine lv_iload_n hx hb dX8_off_20 rfl (lv_at hl 1 rfl) ?_
    obtain ⟨v3, hv3, hF⟩ := oB hF
    refine call_i (wr := []) (wn := [(aM, .inr (6, [.ref aMn, .ref aMt, .ref aMk, .int mU, .ref aMs, .int mB, .ref aMl, .int mI, .ref aMx, .int mH, .int mQ, .int mW, .ref aMd, .int mF, .int mR, .int mD, .int mJ, .int mA, .int (0 : Int32)])), (aMn, .inl (K 6, 55, .inl nN))]) (va_runV (As := [.int p1]) (rest := []) ⟨hx, hb, hml, hown, hts⟩ (c_X8_hasWagered l D K aM aMn aMt aMk aMs aMl aMx aMd mU mB mI mH mQ mW mF mR mD mJ mA (0 : Int32) nN p1 v3 hv3 H.size) (cwV 1 hts gX8_off_X8_hasWagered rfl rfl rfl (by decide +kernel) ⟨(Nat.le_of_ble_eq_true rfl), (Nat.le_of_ble_eq_true rfl)⟩) (prV hE hK hP hD hS hA [0, 1] rfl rfl 6 0 rfl rfl rfl) rfl rfl hl.1 rfl (lv_room (Nat.le_of_ble_eq_true rfl)) dX8_off_21 ⟨(Nat.le_of_ble_eq_true rfl), (Nat.le_of_ble_eq_true rfl)⟩) hP hD hS hA [0, 1] [] [0, 1] rfl rfl rfl (by decide) rfl rfl (fun H locs hP hD hS => ?_)
    refine lv_if_eq (tgt := 50) hx hb dX8_off_24 (by decide) (fun c4 => ?_) (fun c4 => ?_)
    · have hF := oT c4 hF
      refine lv_aload_n hx hb dX8_off_50 rfl (lv_at hl 0 rfl) ?_
      refine lv_iconst (v := (2 : Int32)) hx hb dX8_off_51 (by decide) ?_
      obtain ⟨v5, hv5, hF⟩ := oB hF
      refine call_i (wr := [(aMn, .inl (K 6, 55, .inl nN))]) (wn := [(aM, .inr (6, [.ref aMn, .ref aMt, .ref aMk, .int mU, .ref aMs, .int mB, .ref aMl, .int mI, .ref aMx, .int mH, .int mQ, .int mW, .ref aMd, .int mF, .int mR, .int mD, .int mJ, .int mA, .int v5.2])), (aMn, .inl (K 6, 55, .inl nN))]) (va_runV (As := [.int (2 : Int32)]) (rest := []) ⟨hx, hb, hml, hown, hts⟩ (c_X8_raises l D K aM aMn aMt aMk aMs aMl aMx aMd mU mB mI mH mQ mW mF mR mD mJ mA (0 : Int32) (2 : Int32) v5 hv5 H.size) (cwV 1 hts gX8_off_X8_raises rfl rfl rfl (by decide +kernel) ⟨(Nat.le_of_ble_eq_true rfl), (Nat.le_of_ble_eq_true rfl)⟩) (prV hE hK hP hD hS hA [0] rfl rfl 6 0 rfl rfl rfl) rfl rfl hl.1 rfl (lv_room (Nat.le_of_ble_eq_true rfl)) dX8_off_52 ⟨(Nat.le_of_ble_eq_true rfl), (Nat.le_of_ble_eq_true rfl)⟩) hP hD hS hA [0] [1] [1, 0] rfl rfl rfl (by decide) rfl rfl (fun H locs hP hD hS => ?_)
      exact fin_i (u := (v5.1, v5.2)) hF hx hb hr hlocks hK hP hD hS (Nat.le_of_ble_eq_true rfl) (Nat.le_of_ble_eq_true rfl) dX8_off_55
    · have hF := oF c4 hF
      refine lv_aload_n hx hb dX8_off_27 rfl (lv_at hl 0 rfl) ?_
      refine lv_iload_n hx hb dX8_off_28 rfl (lv_at hl 1 rfl) ?_
      refine lv_iconst (v := (2 : Int32)) hx hb dX8_off_29 (by decide) ?_
      obtain ⟨v6, hv6, hF⟩ := oB hF
      refine call_i (wr := []) (wn := [(aM, .inr (6, [.ref aMn, .ref aMt, .ref aMk, .int mU, .ref aMs, .int mB, .ref aMl, .int mI, .ref aMx, .int mH, .int mQ, .int mW, .ref aMd, .int mF, .int mR, .int mD, .int mJ, .int mA, .int (0 : Int32)])), (aMn, .inl (K 6, 55, .inl nN))]) (va_runV (As := [.int p1, .int (2 : Int32)]) (rest := []) ⟨hx, hb, hml, hown, hts⟩ (c_X8_of l D K aM aMn aMt aMk aMs aMl aMx aMd mU mB mI mH mQ mW mF mR mD mJ mA (0 : Int32) nN p1 (2 : Int32) v6 hv6 H.size) (cwV 2 hts gX8_off_X8_of rfl rfl rfl (by decide +kernel) ⟨(Nat.le_of_ble_eq_true rfl), (Nat.le_of_ble_eq_true rfl)⟩) (prV hE hK hP hD hS hA [0, 1] rfl rfl 6 0 rfl rfl rfl) rfl rfl hl.1 rfl (lv_room (Nat.le_of_ble_eq_true rfl)) dX8_off_30 ⟨(Nat.le_of_ble_eq_true rfl), (Nat.le_of_ble_eq_true rfl)⟩) hP hD hS hA [0, 1] [] [0, 1] rfl rfl rfl (by decide) rfl rfl (fun H locs hP hD hS => ?_)
      refine lv_aload_n hx hb dX8_off_33 rfl (lv_at hl 0 rfl) ?_
      refine lv_iload_n hx hb dX8_off_34 rfl (lv_at hl 1 rfl) ?_
      refine lv_aload_n hx hb dX8_off_35 rfl (lv_at hl 0 rfl) ?_
      refine va_get (D := D) (ci := 6) (v := .ref aMn) (C := RX8) (T := TX8) (N := 19) hx hb hts (fun _ h => List.mem_cons_of_mem _ (List.mem_append_left _ (List.mem_append_right _ h))) hown hK hP 0 rfl rfl 0 (by decide) (hts (.fieldLink RX8 9 "BarometerClubModel" "now" "[I") (List.mem_of_getElem? (i := 2) rfl)) (fun _ h9 => h9) rfl dX8_off_36 ?_
      refine lv_iconst (v := (1 : Int32)) hx hb dX8_off_39 (by decide) ?_
      refine va_iald hx hb hK hP 1 6 rfl rfl (inB_in (by decide : inB (1 : Int32) 55 = true)) dX8_off_40 ?_
      obtain ⟨v7, hv7, hF⟩ := oB hF
      refine call_i (wr := []) (wn := [(aM, .inr (6, [.ref aMn, .ref aMt, .ref aMk, .int mU, .ref aMs, .int mB, .ref aMl, .int mI, .ref aMx, .int mH, .int mQ, .int mW, .ref aMd, .int mF, .int mR, .int mD, .int mJ, .int mA, .int (0 : Int32)])), (aMn, .inl (K 6, 55, .inl nN))]) (va_runV (As := [.int p1, .int (nN (1 : Int32).toNatClampNeg)]) (rest := [.int v6.1]) ⟨hx, hb, hml, hown, hts⟩ (c_X8_needleAt l D K aM aMn aMt aMk aMs aMl aMx aMd mU mB mI mH mQ mW mF mR mD mJ mA (0 : Int32) nN p1 (nN (1 : Int32).toNatClampNeg) v7 hv7 H.size) (cwV 2 hts gX8_off_X8_needleAt rfl rfl rfl (by decide +kernel) ⟨(Nat.le_of_ble_eq_true rfl), (Nat.le_of_ble_eq_true rfl)⟩) (prV hE hK hP hD hS hA [0, 1] rfl rfl 6 0 rfl rfl rfl) rfl rfl hl.1 rfl (lv_room (Nat.le_of_ble_eq_true rfl)) dX8_off_41 ⟨(Nat.le_of_ble_eq_true rfl), (Nat.le_of_ble_eq_true rfl)⟩) hP hD hS hA [0, 1] [] [0, 1] rfl rfl rfl (by decide) rfl rfl (fun H locs hP hD hS => ?_)
      obtain ⟨v8, hv8, hF⟩ := oB hF
      refine call_i (wr := [(aM, .inr (6, [.ref aMn, .ref aMt, .ref aMk, .int mU, .ref aMs, .int mB, .ref aMl, .int mI, .ref aMx, .int mH, .int mQ, .int mW, .ref aMd, .int mF, .int mR, .int mD, .int mJ, .int mA, .int (0 : Int32)])), (aMn, .inl (K 6, 55, .inl nN))]) (wn := [(aM, .inr (6, [.ref aMn, .ref aMt, .ref aMk, .int mU, .ref aMs, .int mB, .ref aMl, .int mI, .ref aMx, .int mH, .int mQ, .int mW, .ref aMd, .int mF, .int mR, .int mD, .int mJ, .int mA, .int (0 : Int32)])), (aMn, .inl (K 6, 55, .inl nN))]) (va_runS (As := [.int v6.1, .int v7.1]) (rest := []) ⟨hx, hb, hml, hown, hts⟩ (c_X8_apart l D K v6.1 v7.1 v8 hv8 H.size) (va_cwS 2 hts gX8_off_X8_apart rfl rfl rfl (by decide +kernel) ⟨(Nat.le_of_ble_eq_true rfl), (Nat.le_of_ble_eq_true rfl)⟩) (prS hE hK hP hD hS hA [] rfl rfl) rfl rfl hl.1 rfl (lv_room (Nat.le_of_ble_eq_true rfl)) dX8_off_44 ⟨(Nat.le_of_ble_eq_true rfl), (Nat.le_of_ble_eq_true rfl)⟩) hP hD hS hA [] [0, 1] [0, 1] rfl rfl rfl (by decide) rfl rfl (fun H locs hP hD hS => ?_)
      refine lv_goto (tgt := 55) hx hb dX8_off_47 (by decide) ?_
      exact fin_i (u := (v8.1, (0 : Int32))) hF hx hb hr hlocks hK hP hD hS (Nat.le_of_ble_eq_true rfl) (Nat.le_of_ble_eq_true rfl) dX8_off_55
  · have hF := oT c2 hF
    refine lv_aload_n hx hb dX8_off_13 rfl (lv_at hl 0 rfl) ?_
    refine lv_iconst (v := (1 : Int32)) hx hb dX8_off_14 (by decide) ?_
    obtain ⟨v9, hv9, hF⟩ := oB hF
    refine call_i (wr := [(aMn, .inl (K 6, 55, .inl nN))]) (wn := [(aM, .inr (6, [.ref aMn, .ref aMt, .ref aMk, .int mU, .ref aMs, .int mB, .ref aMl, .int mI, .ref aMx, .int mH, .int mQ, .int mW, .ref aMd, .int mF, .int mR, .int mD, .int mJ, .int mA, .int v9.2])), (aMn, .inl (K 6, 55, .inl nN))]) (va_runV (As := [.int (1 : Int32)]) (rest := []) ⟨hx, hb, hml, hown, hts⟩ (c_X8_raises l D K aM aMn aMt aMk aMs aMl aMx aMd mU mB mI mH mQ mW mF mR mD mJ mA (0 : Int32) (1 : Int32) v9 hv9 H.size) (cwV 1 hts gX8_off_X8_raises rfl rfl rfl (by decide +kernel) ⟨(Nat.le_of_ble_eq_true rfl), (Nat.le_of_ble_eq_true rfl)⟩) (prV hE hK hP hD hS hA [0] rfl rfl 6 0 rfl rfl rfl) rfl rfl hl.1 rfl (lv_room (Nat.le_of_ble_eq_true rfl)) dX8_off_15 ⟨(Nat.le_of_ble_eq_true rfl), (Nat.le_of_ble_eq_true rfl)⟩) hP hD hS hA [0] [1] [1, 0] rfl rfl rfl (by decide) rfl rfl (fun H locs hP hD hS => ?_)
    exact fin_i (u := (v9.1, v9.2)) hF hx hb hr hlocks hK hP hD hS (Nat.le_of_ble_eq_true rfl) (Nat.le_of_ble_eq_true rfl) dX8_off_18
abbrev RM_X8_owner : Room := { frames := 2, cells := 0, slots := 0, locals := 44 }
abbrev MC_X8_owner : Nat := 0
abbrev MS_X8_owner : Nat := 0
abbrev wf_X8_owner (K : Nat → ClassId) (aM : Nat) (aMn : Nat) (aMt : Nat) (aMk : Nat) (aMs : Nat) (aMl : Nat) (aMx : Nat) (aMd : Nat) (mU : Int32) (mB : Int32) (mI : Int32) (mH : Int32) (mQ : Int32) (mW : Int32) (mF : Int32) (mR : Int32) (mD : Int32) (mJ : Int32) (mA : Int32) (nN : Nat → Int32) (v : Int32 × Int32) : va_W := [(aM, .inr (6, [.ref aMn, .ref aMt, .ref aMk, .int mU, .ref aMs, .int mB, .ref aMl, .int mI, .ref aMx, .int mH, .int mQ, .int mW, .ref aMd, .int mF, .int mR, .int mD, .int mJ, .int mA, .int v.2])), (aMn, .inl (K 6, 55, .inl nN))]
set_option maxHeartbeats 4000000 in
set_option maxRecDepth 100000 in
theorem c_X8_owner (l : Launch) (D : va_G) (K : Nat → ClassId) (aM : Nat) (aMn : Nat) (aMt : Nat) (aMk : Nat) (aMs : Nat) (aMl : Nat) (aMx : Nat) (aMd : Nat) (mU : Int32) (mB : Int32) (mI : Int32) (mH : Int32) (mQ : Int32) (mW : Int32) (mF : Int32) (mR : Int32) (mD : Int32) (mJ : Int32) (mA : Int32) (mT : Int32) (nN : Nat → Int32) (p1 : Int32) (v : Int32 × Int32) (hF : f_X8_owner mT nN p1 = some v) (sz : Nat) :
    (Met l yX8_owner wsX8_owner RM_X8_owner (PC D (TY K) [(aM, .inr (6, [.ref aMn, .ref aMt, .ref aMk, .int mU, .ref aMs, .int mB, .ref aMl, .int mI, .ref aMx, .int mH, .int mQ, .int mW, .ref aMd, .int mF, .int mR, .int mD, .int mJ, .int mA, .int mT])), (aMn, .inl (K 6, 55, .inl nN))] [.ref aM, .int p1] sz) (QI D (TY K) (wf_X8_owner K aM aMn aMt aMk aMs aMl aMx aMd mU mB mI mH mQ mW mF mR mD mJ mA nN) v (va_A [(aM, .inr (6, [.ref aMn, .ref aMt, .ref aMk, .int mU, .ref aMs, .int mB, .ref aMl, .int mI, .ref aMx, .int mH, .int mQ, .int mW, .ref aMd, .int mF, .int mR, .int mD, .int mJ, .int mA, .int mT])), (aMn, .inl (K 6, 55, .inl nN))] sz)) MC_X8_owner MS_X8_owner (va_A [(aM, .inr (6, [.ref aMn, .ref aMt, .ref aMk, .int mU, .ref aMs, .int mB, .ref aMl, .int mI, .ref aMx, .int mH, .int mQ, .int mW, .ref aMd, .int mF, .int mR, .int mD, .int mJ, .int mA, .int mT])), (aMn, .inl (K 6, 55, .inl nN))] sz)) := by
  refine pro (Qf := fun A => QI D (TY K) (wf_X8_owner K aM aMn aMt aMk aMs aMl aMx aMd mU mB mI mH mQ mW mF mR mD mJ mA nN) v A) (cc := cX8_owner) (maxL := 2) (ret := (some .int)) (by decide +kernel) rfl (Nat.le_of_ble_eq_true rfl) ?_
  intro p e s m args below meth c hx hb hr hts hown hlocks hml hini hK A hA hE hP hD hS ls hl
  have hown : s.vm.findClass RX8 = some m.cls := hown
  have hl : lv_has ls 2 [(0, .ref aM), (1, .int p1)] := hl
  rw [f_X8_owner] at hF
  refine lv_aload_n hx hb dX8_owner_0 rfl (lv_at hl 0 rfl) ?_
  refine lv_iconst (v := (0 : Int32)) hx hb dX8_owner_1 (by decide) ?_
  refine va_put (D := D) (ci := 6) (v := .int (0 : Int32)) (ty := .int) (C := RX8) (T := TX8) (N := 19) hx hb hts (fun _ h => List.mem_cons_of_mem _ (List.mem_append_left _ (List.mem_append_right _ h))) tyX8 tyX8_ok nmX8 hown hK hP hD hS 0 rfl rfl 18 (by decide) (hts (.fieldLink RX8 36 "BarometerClubModel" "thrown" "I") (List.mem_of_getElem? (i := 1) rfl)) (fun _ h9 => h9) rfl (by decide +kernel) rfl rfl (Nat.le_of_ble_eq_true rfl) dX8_owner_2 (fun H locs hP hD hS => ?_)
  have hP : va_P D vwC7 [(aM, .inr (6, [.ref aMn, .ref aMt, .ref aMk, .int mU, .ref aMs, .int mB, .ref aMl, .int mI, .ref aMx, .int mH, .int mQ, .int mW, .ref aMd, .int mF, .int mR, .int mD, .int mJ, .int mA, .int (0 : Int32)])), (aMn, .inl (K 6, 55, .inl nN))] H := hP
  have hD : va_D A [(aM, .inr (6, [.ref aMn, .ref aMt, .ref aMk, .int mU, .ref aMs, .int mB, .ref aMl, .int mI, .ref aMx, .int mH, .int mQ, .int mW, .ref aMd, .int mF, .int mR, .int mD, .int mJ, .int mA, .int (0 : Int32)])), (aMn, .inl (K 6, 55, .inl nN))] := hD
  refine lv_iload_n hx hb dX8_owner_5 rfl (lv_at hl 1 rfl) ?_
  refine lv_iconst (v := (0 : Int32)) hx hb dX8_owner_6 (by decide) ?_
  refine lv_bipush (v := (9 : Int32)) hx hb dX8_owner_7 (by decide) ?_
  obtain ⟨v1, hv1, hF⟩ := oB hF
  refine call_i (wr := [(aM, .inr (6, [.ref aMn, .ref aMt, .ref aMk, .int mU, .ref aMs, .int mB, .ref aMl, .int mI, .ref aMx, .int mH, .int mQ, .int mW, .ref aMd, .int mF, .int mR, .int mD, .int mJ, .int mA, .int (0 : Int32)])), (aMn, .inl (K 6, 55, .inl nN))]) (wn := [(aM, .inr (6, [.ref aMn, .ref aMt, .ref aMk, .int mU, .ref aMs, .int mB, .ref aMl, .int mI, .ref aMx, .int mH, .int mQ, .int mW, .ref aMd, .int mF, .int mR, .int mD, .int mJ, .int mA, .int (0 : Int32)])), (aMn, .inl (K 6, 55, .inl nN))]) (va_runS (As := [.int p1, .int (0 : Int32), .int (9 : Int32)]) (rest := []) ⟨hx, hb, hml, hown, hts⟩ (c_X8_in l D K p1 (0 : Int32) (9 : Int32) v1 hv1 H.size) (va_cwS 3 hts gX8_owner_X8_in rfl rfl rfl (by decide +kernel) ⟨(Nat.le_of_ble_eq_true rfl), (Nat.le_of_ble_eq_true rfl)⟩) (prS hE hK hP hD hS hA [] rfl rfl) rfl rfl hl.1 rfl (lv_room (Nat.le_of_ble_eq_true rfl)) dX8_owner_9 ⟨(Nat.le_of_ble_eq_true rfl), (Nat.le_of_ble_eq_true rfl)⟩) hP hD hS hA [] [0, 1] [0, 1] rfl rfl rfl (by decide) rfl rfl (fun H locs hP hD hS => ?_)
  refine lv_if_ne (tgt := 21) hx hb dX8_owner_12 (by decide) (fun c2 => ?_) (fun c2 => ?_)
  · have hF := oF c2 hF
    refine lv_aload_n hx hb dX8_owner_21 rfl (lv_at hl 0 rfl) ?_
    refine lv_iload_n hx hb dX8_owner_22 rfl (lv_at hl 1 rfl) ?_
    obtain ⟨v3, hv3, hF⟩ := oB hF
    refine call_i (wr := []) (wn := [(aM, .inr (6, [.ref aMn, .ref aMt, .ref aMk, .int mU, .ref aMs, .int mB, .ref aMl, .int mI, .ref aMx, .int mH, .int mQ, .int mW, .ref aMd, .int mF, .int mR, .int mD, .int mJ, .int mA, .int (0 : Int32)])), (aMn, .inl (K 6, 55, .inl nN))]) (va_runV (As := [.int p1]) (rest := []) ⟨hx, hb, hml, hown, hts⟩ (c_X8_ownerOf l D K aM aMn aMt aMk aMs aMl aMx aMd mU mB mI mH mQ mW mF mR mD mJ mA (0 : Int32) nN p1 v3 hv3 H.size) (cwV 1 hts gX8_owner_X8_ownerOf rfl rfl rfl (by decide +kernel) ⟨(Nat.le_of_ble_eq_true rfl), (Nat.le_of_ble_eq_true rfl)⟩) (prV hE hK hP hD hS hA [0, 1] rfl rfl 6 0 rfl rfl rfl) rfl rfl hl.1 rfl (lv_room (Nat.le_of_ble_eq_true rfl)) dX8_owner_23 ⟨(Nat.le_of_ble_eq_true rfl), (Nat.le_of_ble_eq_true rfl)⟩) hP hD hS hA [0, 1] [] [0, 1] rfl rfl rfl (by decide) rfl rfl (fun H locs hP hD hS => ?_)
    refine lv_if_ge (tgt := 37) hx hb dX8_owner_26 (by decide) (fun c4 => ?_) (fun c4 => ?_)
    · have hF := oT c4 hF
      refine lv_aload_n hx hb dX8_owner_37 rfl (lv_at hl 0 rfl) ?_
      refine lv_iload_n hx hb dX8_owner_38 rfl (lv_at hl 1 rfl) ?_
      obtain ⟨v5, hv5, hF⟩ := oB hF
      refine call_i (wr := []) (wn := [(aM, .inr (6, [.ref aMn, .ref aMt, .ref aMk, .int mU, .ref aMs, .int mB, .ref aMl, .int mI, .ref aMx, .int mH, .int mQ, .int mW, .ref aMd, .int mF, .int mR, .int mD, .int mJ, .int mA, .int (0 : Int32)])), (aMn, .inl (K 6, 55, .inl nN))]) (va_runV (As := [.int p1]) (rest := []) ⟨hx, hb, hml, hown, hts⟩ (c_X8_ownerOf l D K aM aMn aMt aMk aMs aMl aMx aMd mU mB mI mH mQ mW mF mR mD mJ mA (0 : Int32) nN p1 v5 hv5 H.size) (cwV 1 hts gX8_owner_X8_ownerOf rfl rfl rfl (by decide +kernel) ⟨(Nat.le_of_ble_eq_true rfl), (Nat.le_of_ble_eq_true rfl)⟩) (prV hE hK hP hD hS hA [0, 1] rfl rfl 6 0 rfl rfl rfl) rfl rfl hl.1 rfl (lv_room (Nat.le_of_ble_eq_true rfl)) dX8_owner_39 ⟨(Nat.le_of_ble_eq_true rfl), (Nat.le_of_ble_eq_true rfl)⟩) hP hD hS hA [0, 1] [] [0, 1] rfl rfl rfl (by decide) rfl rfl (fun H locs hP hD hS => ?_)
      exact fin_i (u := (v5.1, (0 : Int32))) hF hx hb hr hlocks hK hP hD hS (Nat.le_of_ble_eq_true rfl) (Nat.le_of_ble_eq_true rfl) dX8_owner_42
    · have hF := oF c4 hF
      refine lv_aload_n hx hb dX8_owner_29 rfl (lv_at hl 0 rfl) ?_
      refine lv_iconst (v := (2 : Int32)) hx hb dX8_owner_30 (by decide) ?_
      obtain ⟨v6, hv6, hF⟩ := oB hF
      refine call_i (wr := [(aMn, .inl (K 6, 55, .inl nN))]) (wn := [(aM, .inr (6, [.ref aMn, .ref aMt, .ref aMk, .int mU, .ref aMs, .int mB, .ref aMl, .int mI, .ref aMx, .int mH, .int mQ, .int mW, .ref aMd, .int mF, .int mR, .int mD, .int mJ, .int mA, .int v6.2])), (aMn, .inl (K 6, 55, .inl nN))]) (va_runV (As := [.int (2 : Int32)]) (rest := []) ⟨hx, hb, hml, hown, hts⟩ (c_X8_raises l D K aM aMn aMt aMk aMs aMl aMx aMd mU mB mI mH mQ mW mF mR mD mJ mA (0 : Int32) (2 : Int32) v6 hv6 H.size) (cwV 1 hts gX8_owner_X8_raises rfl rfl rfl (by decide +kernel) ⟨(Nat.le_of_ble_eq_true rfl), (Nat.le_of_ble_eq_true rfl)⟩) (prV hE hK hP hD hS hA [0] rfl rfl 6 0 rfl rfl rfl) rfl rfl hl.1 rfl (lv_room (Nat.le_of_ble_eq_true rfl)) dX8_owner_31 ⟨(Nat.le_of_ble_eq_true rfl), (Nat.le_of_ble_eq_true rfl)⟩) hP hD hS hA [0] [1] [1, 0] rfl rfl rfl (by decide) rfl rfl (fun H locs hP hD hS => ?_)
      refine lv_goto (tgt := 42) hx hb dX8_owner_34 (by decide) ?_
      exact fin_i (u := (v6.1, v6.2)) hF hx hb hr hlocks hK hP hD hS (Nat.le_of_ble_eq_true rfl) (Nat.le_of_ble_eq_true rfl) dX8_owner_42
  · have hF := oT c2 hF
    refine lv_aload_n hx hb dX8_owner_15 rfl (lv_at hl 0 rfl) ?_
    refine lv_iconst (v := (1 : Int32)) hx hb dX8_owner_16 (by decide) ?_
    obtain ⟨v7, hv7, hF⟩ := oB hF
    refine call_i (wr := [(aMn, .inl (K 6, 55, .inl nN))]) (wn := [(aM, .inr (6, [.ref aMn, .ref aMt, .ref aMk, .int mU, .ref aMs, .int mB, .ref aMl, .int mI, .ref aMx, .int mH, .int mQ, .int mW, .ref aMd, .int mF, .int mR, .int mD, .int mJ, .int mA, .int v7.2])), (aMn, .inl (K 6, 55, .inl nN))]) (va_runV (As := [.int (1 : Int32)]) (rest := []) ⟨hx, hb, hml, hown, hts⟩ (c_X8_raises l D K aM aMn aMt aMk aMs aMl aMx aMd mU mB mI mH mQ mW mF mR mD mJ mA (0 : Int32) (1 : Int32) v7 hv7 H.size) (cwV 1 hts gX8_owner_X8_raises rfl rfl rfl (by decide +kernel) ⟨(Nat.le_of_ble_eq_true rfl), (Nat.le_of_ble_eq_true rfl)⟩) (prV hE hK hP hD hS hA [0] rfl rfl 6 0 rfl rfl rfl) rfl rfl hl.1 rfl (lv_room (Nat.le_of_ble_eq_true rfl)) dX8_owner_17 ⟨(Nat.le_of_ble_eq_true rfl), (Nat.le_of_ble_eq_true rfl)⟩) hP hD hS hA [0] [1] [1, 0] rfl rfl rfl (by decide) rfl rfl (fun H locs hP hD hS => ?_)
    exact fin_i (u := (v7.1, v7.2)) hF hx hb hr hlocks hK hP hD hS (Nat.le_of_ble_eq_true rfl) (Nat.le_of_ble_eq_true rfl) dX8_owner_20
abbrev RM_X8_winners : Room := { frames := 3, cells := 0, slots := 0, locals := 69 }
abbrev MC_X8_winners : Nat := 0
abbrev MS_X8_winners : Nat := 0
abbrev wf_X8_winners (K : Nat → ClassId) (aM : Nat) (aMn : Nat) (aMt : Nat) (aMk : Nat) (aMs : Nat) (aMl : Nat) (aMx : Nat) (aMd : Nat) (mU : Int32) (mB : Int32) (mI : Int32) (mH : Int32) (mQ : Int32) (mW : Int32) (mF : Int32) (mR : Int32) (mD : Int32) (mJ : Int32) (mA : Int32) (nN : Nat → Int32) (v : Int32 × Int32) : va_W := [(aM, .inr (6, [.ref aMn, .ref aMt, .ref aMk, .int mU, .ref aMs, .int mB, .ref aMl, .int mI, .ref aMx, .int mH, .int mQ, .int mW, .ref aMd, .int mF, .int mR, .int mD, .int mJ, .int mA, .int v.2])), (aMn, .inl (K 6, 55, .inl nN))]
set_option maxHeartbeats 4000000 in
set_option maxRecDepth 100000 in
theorem c_X8_winners (l : Launch) (D : va_G) (K : Nat → ClassId) (aM : Nat) (aMn : Nat) (aMt : Nat) (aMk : Nat) (aMs : Nat) (aMl : Nat) (aMx : Nat) (aMd : Nat) (mU : Int32) (mB : Int32) (mI : Int32) (mH : Int32) (mQ : Int32) (mW : Int32) (mF : Int32) (mR : Int32) (mD : Int32) (mJ : Int32) (mA : Int32) (mT : Int32) (nN : Nat → Int32)  (v : Int32 × Int32) (hF : f_X8_winners mT nN = some v) (sz : Nat) :
    (Met l yX8_winners wsX8_winners RM_X8_winners (PC D (TY K) [(aM, .inr (6, [.ref aMn, .ref aMt, .ref aMk, .int mU, .ref aMs, .int mB, .ref aMl, .int mI, .ref aMx, .int mH, .int mQ, .int mW, .ref aMd, .int mF, .int mR, .int mD, .int mJ, .int mA, .int mT])), (aMn, .inl (K 6, 55, .inl nN))] [.ref aM] sz) (QI D (TY K) (wf_X8_winners K aM aMn aMt aMk aMs aMl aMx aMd mU mB mI mH mQ mW mF mR mD mJ mA nN) v (va_A [(aM, .inr (6, [.ref aMn, .ref aMt, .ref aMk, .int mU, .ref aMs, .int mB, .ref aMl, .int mI, .ref aMx, .int mH, .int mQ, .int mW, .ref aMd, .int mF, .int mR, .int mD, .int mJ, .int mA, .int mT])), (aMn, .inl (K 6, 55, .inl nN))] sz)) MC_X8_winners MS_X8_winners (va_A [(aM, .inr (6, [.ref aMn, .ref aMt, .ref aMk, .int mU, .ref aMs, .int mB, .ref aMl, .int mI, .ref aMx, .int mH, .int mQ, .int mW, .ref aMd, .int mF, .int mR, .int mD, .int mJ, .int mA, .int mT])), (aMn, .inl (K 6, 55, .inl nN))] sz)) := by
  refine pro (Qf := fun A => QI D (TY K) (wf_X8_winners K aM aMn aMt aMk aMs aMl aMx aMd mU mB mI mH mQ mW mF mR mD mJ mA nN) v A) (cc := cX8_winners) (maxL := 1) (ret := (some .int)) (by decide +kernel) rfl (Nat.le_of_ble_eq_true rfl) ?_
  intro p e s m args below meth c hx hb hr hts hown hlocks hml hini hK A hA hE hP hD hS ls hl
  have hown : s.vm.findClass RX8 = some m.cls := hown
  have hl : lv_has ls 1 [(0, .ref aM)] := hl
  rw [f_X8_winners] at hF
  refine lv_aload_n hx hb dX8_winners_0 rfl (lv_at hl 0 rfl) ?_
  refine lv_iconst (v := (0 : Int32)) hx hb dX8_winners_1 (by decide) ?_
  refine va_put (D := D) (ci := 6) (v := .int (0 : Int32)) (ty := .int) (C := RX8) (T := TX8) (N := 19) hx hb hts (fun _ h => List.mem_cons_of_mem _ (List.mem_append_left _ (List.mem_append_right _ h))) tyX8 tyX8_ok nmX8 hown hK hP hD hS 0 rfl rfl 18 (by decide) (hts (.fieldLink RX8 36 "BarometerClubModel" "thrown" "I") (List.mem_of_getElem? (i := 1) rfl)) (fun _ h9 => h9) rfl (by decide +kernel) rfl rfl (Nat.le_of_ble_eq_true rfl) dX8_winners_2 (fun H locs hP hD hS => ?_)
  have hP : va_P D vwC7 [(aM, .inr (6, [.ref aMn, .ref aMt, .ref aMk, .int mU, .ref aMs, .int mB, .ref aMl, .int mI, .ref aMx, .int mH, .int mQ, .int mW, .ref aMd, .int mF, .int mR, .int mD, .int mJ, .int mA, .int (0 : Int32)])), (aMn, .inl (K 6, 55, .inl nN))] H := hP
  have hD : va_D A [(aM, .inr (6, [.ref aMn, .ref aMt, .ref aMk, .int mU, .ref aMs, .int mB, .ref aMl, .int mI, .ref aMx, .int mH, .int mQ, .int mW, .ref aMd, .int mF, .int mR, .int mD, .int mJ, .int mA, .int (0 : Int32)])), (aMn, .inl (K 6, 55, .inl nN))] := hD
  refine lv_aload_n hx hb dX8_winners_5 rfl (lv_at hl 0 rfl) ?_
  refine lv_aload_n hx hb dX8_winners_6 rfl (lv_at hl 0 rfl) ?_
  refine va_get (D := D) (ci := 6) (v := .ref aMn) (C := RX8) (T := TX8) (N := 19) hx hb hts (fun _ h => List.mem_cons_of_mem _ (List.mem_append_left _ (List.mem_append_right _ h))) hown hK hP 0 rfl rfl 0 (by decide) (hts (.fieldLink RX8 9 "BarometerClubModel" "now" "[I") (List.mem_of_getElem? (i := 2) rfl)) (fun _ h9 => h9) rfl dX8_winners_7 ?_
  refine lv_iconst (v := (1 : Int32)) hx hb dX8_winners_10 (by decide) ?_
  refine va_iald hx hb hK hP 1 6 rfl rfl (inB_in (by decide : inB (1 : Int32) 55 = true)) dX8_winners_11 ?_
  obtain ⟨v1, hv1, hF⟩ := oB hF
  refine call_i (wr := []) (wn := [(aM, .inr (6, [.ref aMn, .ref aMt, .ref aMk, .int mU, .ref aMs, .int mB, .ref aMl, .int mI, .ref aMx, .int mH, .int mQ, .int mW, .ref aMd, .int mF, .int mR, .int mD, .int mJ, .int mA, .int (0 : Int32)])), (aMn, .inl (K 6, 55, .inl nN))]) (va_runV (As := [.int (nN (1 : Int32).toNatClampNeg)]) (rest := []) ⟨hx, hb, hml, hown, hts⟩ (c_X8_winnersAt l D K aM aMn aMt aMk aMs aMl aMx aMd mU mB mI mH mQ mW mF mR mD mJ mA (0 : Int32) nN (nN (1 : Int32).toNatClampNeg) v1 hv1 H.size) (cwV 1 hts gX8_winners_X8_winnersAt rfl rfl rfl (by decide +kernel) ⟨(Nat.le_of_ble_eq_true rfl), (Nat.le_of_ble_eq_true rfl)⟩) (prV hE hK hP hD hS hA [0, 1] rfl rfl 6 0 rfl rfl rfl) rfl rfl hl.1 rfl (lv_room (Nat.le_of_ble_eq_true rfl)) dX8_winners_12 ⟨(Nat.le_of_ble_eq_true rfl), (Nat.le_of_ble_eq_true rfl)⟩) hP hD hS hA [0, 1] [] [0, 1] rfl rfl rfl (by decide) rfl rfl (fun H locs hP hD hS => ?_)
  exact fin_i (u := (v1.1, (0 : Int32))) hF hx hb hr hlocks hK hP hD hS (Nat.le_of_ble_eq_true rfl) (Nat.le_of_ble_eq_true rfl) dX8_winners_15
abbrev RM_X8_winnersAgain : Room := { frames := 4, cells := 0, slots := 0, locals := 89 }
abbrev MC_X8_winnersAgain : Nat := 0
abbrev MS_X8_winnersAgain : Nat := 0
abbrev wf_X8_winnersAgain (K : Nat → ClassId) (aM : Nat) (aMn : Nat) (aMt : Nat) (aMk : Nat) (aMs : Nat) (aMl : Nat) (aMx : Nat) (aMd : Nat) (mU : Int32) (mB : Int32) (mI : Int32) (mH : Int32) (mQ : Int32) (mW : Int32) (mF : Int32) (mR : Int32) (mD : Int32) (mJ : Int32) (mA : Int32) (nN : Nat → Int32) (v : Int32 × Int32) : va_W := [(aM, .inr (6, [.ref aMn, .ref aMt, .ref aMk, .int mU, .ref aMs, .int mB, .ref aMl, .int mI, .ref aMx, .int mH, .int mQ, .int mW, .ref aMd, .int mF, .int mR, .int mD, .int mJ, .int mA, .int v.2])), (aMn, .inl (K 6, 55, .inl nN))]
set_option maxHeartbeats 4000000 in
set_option maxRecDepth 100000 in
theorem c_X8_winnersAgain (l : Launch) (D : va_G) (K : Nat → ClassId) (aM : Nat) (aMn : Nat) (aMt : Nat) (aMk : Nat) (aMs : Nat) (aMl : Nat) (aMx : Nat) (aMd : Nat) (mU : Int32) (mB : Int32) (mI : Int32) (mH : Int32) (mQ : Int32) (mW : Int32) (mF : Int32) (mR : Int32) (mD : Int32) (mJ : Int32) (mA : Int32) (mT : Int32) (nN : Nat → Int32)  (v : Int32 × Int32) (hF : f_X8_winnersAgain mT nN = some v) (sz : Nat) :
    (Met l yX8_winnersAgain wsX8_winnersAgain RM_X8_winnersAgain (PC D (TY K) [(aM, .inr (6, [.ref aMn, .ref aMt, .ref aMk, .int mU, .ref aMs, .int mB, .ref aMl, .int mI, .ref aMx, .int mH, .int mQ, .int mW, .ref aMd, .int mF, .int mR, .int mD, .int mJ, .int mA, .int mT])), (aMn, .inl (K 6, 55, .inl nN))] [.ref aM] sz) (QI D (TY K) (wf_X8_winnersAgain K aM aMn aMt aMk aMs aMl aMx aMd mU mB mI mH mQ mW mF mR mD mJ mA nN) v (va_A [(aM, .inr (6, [.ref aMn, .ref aMt, .ref aMk, .int mU, .ref aMs, .int mB, .ref aMl, .int mI, .ref aMx, .int mH, .int mQ, .int mW, .ref aMd, .int mF, .int mR, .int mD, .int mJ, .int mA, .int mT])), (aMn, .inl (K 6, 55, .inl nN))] sz)) MC_X8_winnersAgain MS_X8_winnersAgain (va_A [(aM, .inr (6, [.ref aMn, .ref aMt, .ref aMk, .int mU, .ref aMs, .int mB, .ref aMl, .int mI, .ref aMx, .int mH, .int mQ, .int mW, .ref aMd, .int mF, .int mR, .int mD, .int mJ, .int mA, .int mT])), (aMn, .inl (K 6, 55, .inl nN))] sz)) := by
  refine pro (Qf := fun A => QI D (TY K) (wf_X8_winnersAgain K aM aMn aMt aMk aMs aMl aMx aMd mU mB mI mH mQ mW mF mR mD mJ mA nN) v A) (cc := cX8_winnersAgain) (maxL := 1) (ret := (some .int)) (by decide +kernel) rfl (Nat.le_of_ble_eq_true rfl) ?_
  intro p e s m args below meth c hx hb hr hts hown hlocks hml hini hK A hA hE hP hD hS ls hl
  have hown : s.vm.findClass RX8 = some m.cls := hown
  have hl : lv_has ls 1 [(0, .ref aM)] := hl
  rw [f_X8_winnersAgain] at hF
  refine lv_aload_n hx hb dX8_winnersAgain_0 rfl (lv_at hl 0 rfl) ?_
  obtain ⟨v1, hv1, hF⟩ := oB hF
  refine call_i (wr := []) (wn := [(aM, .inr (6, [.ref aMn, .ref aMt, .ref aMk, .int mU, .ref aMs, .int mB, .ref aMl, .int mI, .ref aMx, .int mH, .int mQ, .int mW, .ref aMd, .int mF, .int mR, .int mD, .int mJ, .int mA, .int v1.2])), (aMn, .inl (K 6, 55, .inl nN))]) (va_runV (As := []) (rest := []) ⟨hx, hb, hml, hown, hts⟩ (c_X8_winners l D K aM aMn aMt aMk aMs aMl aMx aMd mU mB mI mH mQ mW mF mR mD mJ mA mT nN v1 hv1 s.heap.size) (cwV 0 hts gX8_winnersAgain_X8_winners rfl rfl rfl (by decide +kernel) ⟨(Nat.le_of_ble_eq_true rfl), (Nat.le_of_ble_eq_true rfl)⟩) (prV hE hK hP hD hS hA [0, 1] rfl rfl 6 0 rfl rfl rfl) rfl rfl hl.1 rfl (lv_room (Nat.le_of_ble_eq_true rfl)) dX8_winnersAgain_1 ⟨(Nat.le_of_ble_eq_true rfl), (Nat.le_of_ble_eq_true rfl)⟩) hP hD hS hA [0, 1] [] [0, 1] rfl rfl rfl (by decide) rfl rfl (fun H locs hP hD hS => ?_)
  exact fin_i (u := (v1.1, v1.2)) hF hx hb hr hlocks hK hP hD hS (Nat.le_of_ble_eq_true rfl) (Nat.le_of_ble_eq_true rfl) dX8_winnersAgain_4
abbrev RM_X8_share : Room := { frames := 3, cells := 0, slots := 0, locals := 69 }
abbrev MC_X8_share : Nat := 0
abbrev MS_X8_share : Nat := 0
abbrev wf_X8_share (K : Nat → ClassId) (aM : Nat) (aMn : Nat) (aMt : Nat) (aMk : Nat) (aMs : Nat) (aMl : Nat) (aMx : Nat) (aMd : Nat) (mU : Int32) (mB : Int32) (mI : Int32) (mH : Int32) (mQ : Int32) (mW : Int32) (mF : Int32) (mR : Int32) (mD : Int32) (mJ : Int32) (mA : Int32) (nN : Nat → Int32) (v : Int32 × Int32) : va_W := [(aM, .inr (6, [.ref aMn, .ref aMt, .ref aMk, .int mU, .ref aMs, .int mB, .ref aMl, .int mI, .ref aMx, .int mH, .int mQ, .int mW, .ref aMd, .int mF, .int mR, .int mD, .int mJ, .int mA, .int v.2])), (aMn, .inl (K 6, 55, .inl nN))]
set_option maxHeartbeats 4000000 in
set_option maxRecDepth 100000 in
theorem c_X8_share (l : Launch) (D : va_G) (K : Nat → ClassId) (aM : Nat) (aMn : Nat) (aMt : Nat) (aMk : Nat) (aMs : Nat) (aMl : Nat) (aMx : Nat) (aMd : Nat) (mU : Int32) (mB : Int32) (mI : Int32) (mH : Int32) (mQ : Int32) (mW : Int32) (mF : Int32) (mR : Int32) (mD : Int32) (mJ : Int32) (mA : Int32) (mT : Int32) (nN : Nat → Int32)  (v : Int32 × Int32) (hF : f_X8_share mT nN = some v) (sz : Nat) :
    (Met l yX8_share wsX8_share RM_X8_share (PC D (TY K) [(aM, .inr (6, [.ref aMn, .ref aMt, .ref aMk, .int mU, .ref aMs, .int mB, .ref aMl, .int mI, .ref aMx, .int mH, .int mQ, .int mW, .ref aMd, .int mF, .int mR, .int mD, .int mJ, .int mA, .int mT])), (aMn, .inl (K 6, 55, .inl nN))] [.ref aM] sz) (QI D (TY K) (wf_X8_share K aM aMn aMt aMk aMs aMl aMx aMd mU mB mI mH mQ mW mF mR mD mJ mA nN) v (va_A [(aM, .inr (6, [.ref aMn, .ref aMt, .ref aMk, .int mU, .ref aMs, .int mB, .ref aMl, .int mI, .ref aMx, .int mH, .int mQ, .int mW, .ref aMd, .int mF, .int mR, .int mD, .int mJ, .int mA, .int mT])), (aMn, .inl (K 6, 55, .inl nN))] sz)) MC_X8_share MS_X8_share (va_A [(aM, .inr (6, [.ref aMn, .ref aMt, .ref aMk, .int mU, .ref aMs, .int mB, .ref aMl, .int mI, .ref aMx, .int mH, .int mQ, .int mW, .ref aMd, .int mF, .int mR, .int mD, .int mJ, .int mA, .int mT])), (aMn, .inl (K 6, 55, .inl nN))] sz)) := by
  refine pro (Qf := fun A => QI D (TY K) (wf_X8_share K aM aMn aMt aMk aMs aMl aMx aMd mU mB mI mH mQ mW mF mR mD mJ mA nN) v A) (cc := cX8_share) (maxL := 2) (ret := (some .int)) (by decide +kernel) rfl (Nat.le_of_ble_eq_true rfl) ?_
  intro p e s m args below meth c hx hb hr hts hown hlocks hml hini hK A hA hE hP hD hS ls hl
  have hown : s.vm.findClass RX8 = some m.cls := hown
  have hl : lv_has ls 2 [(0, .ref aM)] := hl
  rw [f_X8_share] at hF
  refine lv_aload_n hx hb dX8_share_0 rfl (lv_at hl 0 rfl) ?_
  refine lv_iconst (v := (0 : Int32)) hx hb dX8_share_1 (by decide) ?_
  refine va_put (D := D) (ci := 6) (v := .int (0 : Int32)) (ty := .int) (C := RX8) (T := TX8) (N := 19) hx hb hts (fun _ h => List.mem_cons_of_mem _ (List.mem_append_left _ (List.mem_append_left _ (List.mem_append_right _ h)))) tyX8 tyX8_ok nmX8 hown hK hP hD hS 0 rfl rfl 18 (by decide) (hts (.fieldLink RX8 36 "BarometerClubModel" "thrown" "I") (List.mem_of_getElem? (i := 1) rfl)) (fun _ h9 => h9) rfl (by decide +kernel) rfl rfl (Nat.le_of_ble_eq_true rfl) dX8_share_2 (fun H locs hP hD hS => ?_)
  have hP : va_P D vwC7 [(aM, .inr (6, [.ref aMn, .ref aMt, .ref aMk, .int mU, .ref aMs, .int mB, .ref aMl, .int mI, .ref aMx, .int mH, .int mQ, .int mW, .ref aMd, .int mF, .int mR, .int mD, .int mJ, .int mA, .int (0 : Int32)])), (aMn, .inl (K 6, 55, .inl nN))] H := hP
  have hD : va_D A [(aM, .inr (6, [.ref aMn, .ref aMt, .ref aMk, .int mU, .ref aMs, .int mB, .ref aMl, .int mI, .ref aMx, .int mH, .int mQ, .int mW, .ref aMd, .int mF, .int mR, .int mD, .int mJ, .int mA, .int (0 : Int32)])), (aMn, .inl (K 6, 55, .inl nN))] := hD
  refine lv_aload_n hx hb dX8_share_5 rfl (lv_at hl 0 rfl) ?_
  refine lv_aload_n hx hb dX8_share_6 rfl (lv_at hl 0 rfl) ?_
  refine va_get (D := D) (ci := 6) (v := .ref aMn) (C := RX8) (T := TX8) (N := 19) hx hb hts (fun _ h => List.mem_cons_of_mem _ (List.mem_append_left _ (List.mem_append_left _ (List.mem_append_right _ h)))) hown hK hP 0 rfl rfl 0 (by decide) (hts (.fieldLink RX8 9 "BarometerClubModel" "now" "[I") (List.mem_of_getElem? (i := 2) rfl)) (fun _ h9 => h9) rfl dX8_share_7 ?_
  refine lv_iconst (v := (1 : Int32)) hx hb dX8_share_10 (by decide) ?_
  refine va_iald hx hb hK hP 1 6 rfl rfl (inB_in (by decide : inB (1 : Int32) 55 = true)) dX8_share_11 ?_
  obtain ⟨v1, hv1, hF⟩ := oB hF
  refine call_i (wr := []) (wn := [(aM, .inr (6, [.ref aMn, .ref aMt, .ref aMk, .int mU, .ref aMs, .int mB, .ref aMl, .int mI, .ref aMx, .int mH, .int mQ, .int mW, .ref aMd, .int mF, .int mR, .int mD, .int mJ, .int mA, .int (0 : Int32)])), (aMn, .inl (K 6, 55, .inl nN))]) (va_runV (As := [.int (nN (1 : Int32).toNatClampNeg)]) (rest := []) ⟨hx, hb, hml, hown, hts⟩ (c_X8_winnersAt l D K aM aMn aMt aMk aMs aMl aMx aMd mU mB mI mH mQ mW mF mR mD mJ mA (0 : Int32) nN (nN (1 : Int32).toNatClampNeg) v1 hv1 H.size) (cwV 1 hts gX8_share_X8_winnersAt rfl rfl rfl (by decide +kernel) ⟨(Nat.le_of_ble_eq_true rfl), (Nat.le_of_ble_eq_true rfl)⟩) (prV hE hK hP hD hS hA [0, 1] rfl rfl 6 0 rfl rfl rfl) rfl rfl hl.1 rfl (lv_room (Nat.le_of_ble_eq_true rfl)) dX8_share_12 ⟨(Nat.le_of_ble_eq_true rfl), (Nat.le_of_ble_eq_true rfl)⟩) hP hD hS hA [0, 1] [] [0, 1] rfl rfl rfl (by decide) rfl rfl (fun H locs hP hD hS => ?_)
  obtain ⟨v2, hv2, hF⟩ := oB hF
  refine call_i (wr := [(aM, .inr (6, [.ref aMn, .ref aMt, .ref aMk, .int mU, .ref aMs, .int mB, .ref aMl, .int mI, .ref aMx, .int mH, .int mQ, .int mW, .ref aMd, .int mF, .int mR, .int mD, .int mJ, .int mA, .int (0 : Int32)])), (aMn, .inl (K 6, 55, .inl nN))]) (wn := [(aM, .inr (6, [.ref aMn, .ref aMt, .ref aMk, .int mU, .ref aMs, .int mB, .ref aMl, .int mI, .ref aMx, .int mH, .int mQ, .int mW, .ref aMd, .int mF, .int mR, .int mD, .int mJ, .int mA, .int (0 : Int32)])), (aMn, .inl (K 6, 55, .inl nN))]) (va_runS (As := [.int v1.1]) (rest := []) ⟨hx, hb, hml, hown, hts⟩ (c_J6_bitCount_0f7a4 l D K v1.1 v2 hv2 H.size) (va_cwS 1 hts gX8_share_J6_bitCount_0f7a4 rfl rfl rfl (by decide +kernel) ⟨(Nat.le_of_ble_eq_true rfl), (Nat.le_of_ble_eq_true rfl)⟩) (prS hE hK hP hD hS hA [] rfl rfl) rfl rfl hl.1 rfl (lv_room (Nat.le_of_ble_eq_true rfl)) dX8_share_15 ⟨(Nat.le_of_ble_eq_true rfl), (Nat.le_of_ble_eq_true rfl)⟩) hP hD hS hA [] [0, 1] [0, 1] rfl rfl rfl (by decide) rfl rfl (fun H locs hP hD hS => ?_)
  refine lv_istore_n (lv' := [(1, .int v2.1), (0, .ref aM)]) hx hb dX8_share_18 rfl hl (by decide) rfl (fun ls hl => ?_)
  refine lv_iload_n hx hb dX8_share_19 rfl (lv_at hl 0 rfl) ?_
  refine lv_if_ne (tgt := 27) hx hb dX8_share_20 (by decide) (fun c3 => ?_) (fun c3 => ?_)
  · have hF := oF c3 hF
    refine lv_aload_n hx hb dX8_share_27 rfl (lv_at hl 1 rfl) ?_
    refine va_get (D := D) (ci := 6) (v := .ref aMn) (C := RX8) (T := TX8) (N := 19) hx hb hts (fun _ h => List.mem_cons_of_mem _ (List.mem_append_left _ (List.mem_append_left _ (List.mem_append_right _ h)))) hown hK hP 0 rfl rfl 0 (by decide) (hts (.fieldLink RX8 9 "BarometerClubModel" "now" "[I") (List.mem_of_getElem? (i := 2) rfl)) (fun _ h9 => h9) rfl dX8_share_28 ?_
    refine lv_bipush (v := (7 : Int32)) hx hb dX8_share_31 (by decide) ?_
    refine va_iald hx hb hK hP 1 6 rfl rfl (inB_in (by decide : inB (7 : Int32) 55 = true)) dX8_share_33 ?_
    refine lv_iload_n hx hb dX8_share_34 rfl (lv_at hl 0 rfl) ?_
    obtain ⟨g4, hF⟩ := oG hF
    refine lv_idiv hx hb dX8_share_35 (nz_ne g4) ?_
    exact fin_i (u := ((nN (7 : Int32).toNatClampNeg) / v2.1, (0 : Int32))) hF hx hb hr hlocks hK hP hD hS (Nat.le_of_ble_eq_true rfl) (Nat.le_of_ble_eq_true rfl) dX8_share_36
  · have hF := oT c3 hF
    refine lv_iconst (v := (0 : Int32)) hx hb dX8_share_23 (by decide) ?_
    refine lv_goto (tgt := 36) hx hb dX8_share_24 (by decide) ?_
    exact fin_i (u := ((0 : Int32), (0 : Int32))) hF hx hb hr hlocks hK hP hD hS (Nat.le_of_ble_eq_true rfl) (Nat.le_of_ble_eq_true rfl) dX8_share_36
abbrev RM_X8_winnersBehind : Room := { frames := 3, cells := 0, slots := 0, locals := 69 }
abbrev MC_X8_winnersBehind : Nat := 0
abbrev MS_X8_winnersBehind : Nat := 0
abbrev wf_X8_winnersBehind (K : Nat → ClassId) (aM : Nat) (aMn : Nat) (aMt : Nat) (aMk : Nat) (aMs : Nat) (aMl : Nat) (aMx : Nat) (aMd : Nat) (mU : Int32) (mB : Int32) (mI : Int32) (mH : Int32) (mQ : Int32) (mW : Int32) (mF : Int32) (mR : Int32) (mD : Int32) (mJ : Int32) (mA : Int32) (mT : Int32) (nN : Nat → Int32) (v : Int32 × Unit) : va_W := [(aM, .inr (6, [.ref aMn, .ref aMt, .ref aMk, .int mU, .ref aMs, .int mB, .ref aMl, .int mI, .ref aMx, .int mH, .int mQ, .int mW, .ref aMd, .int mF, .int mR, .int mD, .int mJ, .int mA, .int mT])), (aMn, .inl (K 6, 55, .inl nN))]
set_option maxHeartbeats 4000000 in
set_option maxRecDepth 100000 in
theorem c_X8_winnersBehind (l : Launch) (D : va_G) (K : Nat → ClassId) (aM : Nat) (aMn : Nat) (aMt : Nat) (aMk : Nat) (aMs : Nat) (aMl : Nat) (aMx : Nat) (aMd : Nat) (mU : Int32) (mB : Int32) (mI : Int32) (mH : Int32) (mQ : Int32) (mW : Int32) (mF : Int32) (mR : Int32) (mD : Int32) (mJ : Int32) (mA : Int32) (mT : Int32) (nN : Nat → Int32) (p1 : Int32) (v : Int32 × Unit) (hF : f_X8_winnersBehind nN p1 = some v) (sz : Nat) :
    (Met l yX8_winnersBehind wsX8_winnersBehind RM_X8_winnersBehind (PC D (TY K) [(aM, .inr (6, [.ref aMn, .ref aMt, .ref aMk, .int mU, .ref aMs, .int mB, .ref aMl, .int mI, .ref aMx, .int mH, .int mQ, .int mW, .ref aMd, .int mF, .int mR, .int mD, .int mJ, .int mA, .int mT])), (aMn, .inl (K 6, 55, .inl nN))] [.ref aM, .int p1] sz) (QI D (TY K) (wf_X8_winnersBehind K aM aMn aMt aMk aMs aMl aMx aMd mU mB mI mH mQ mW mF mR mD mJ mA mT nN) v (va_A [(aM, .inr (6, [.ref aMn, .ref aMt, .ref aMk, .int mU, .ref aMs, .int mB, .ref aMl, .int mI, .ref aMx, .int mH, .int mQ, .int mW, .ref aMd, .int mF, .int mR, .int mD, .int mJ, .int mA, .int mT])), (aMn, .inl (K 6, 55, .inl nN))] sz)) MC_X8_winnersBehind MS_X8_winnersBehind (va_A [(aM, .inr (6, [.ref aMn, .ref aMt, .ref aMk, .int mU, .ref aMs, .int mB, .ref aMl, .int mI, .ref aMx, .int mH, .int mQ, .int mW, .ref aMd, .int mF, .int mR, .int mD, .int mJ, .int mA, .int mT])), (aMn, .inl (K 6, 55, .inl nN))] sz)) := by
  refine pro (Qf := fun A => QI D (TY K) (wf_X8_winnersBehind K aM aMn aMt aMk aMs aMl aMx aMd mU mB mI mH mQ mW mF mR mD mJ mA mT nN) v A) (cc := cX8_winnersBehind) (maxL := 2) (ret := (some .int)) (by decide +kernel) rfl (Nat.le_of_ble_eq_true rfl) ?_
  intro p e s m args below meth c hx hb hr hts hown hlocks hml hini hK A hA hE hP hD hS ls hl
  have hown : s.vm.findClass RX8 = some m.cls := hown
  have hl : lv_has ls 2 [(0, .ref aM), (1, .int p1)] := hl
  rw [f_X8_winnersBehind] at hF
  refine lv_aload_n hx hb dX8_winnersBehind_0 rfl (lv_at hl 0 rfl) ?_
  refine lv_sipush (v := (900 : Int32)) hx hb dX8_winnersBehind_1 (by decide) ?_
  refine lv_sipush (v := (1100 : Int32)) hx hb dX8_winnersBehind_4 (by decide) ?_
  refine lv_aload_n hx hb dX8_winnersBehind_7 rfl (lv_at hl 0 rfl) ?_
  refine va_get (D := D) (ci := 6) (v := .ref aMn) (C := RX8) (T := TX8) (N := 19) hx hb hts (fun _ h => List.mem_cons_of_mem _ (List.mem_append_left _ (List.mem_append_right _ h))) hown hK hP 0 rfl rfl 0 (by decide) (hts (.fieldLink RX8 9 "BarometerClubModel" "now" "[I") (List.mem_of_getElem? (i := 1) rfl)) (fun _ h9 => h9) rfl dX8_winnersBehind_8 ?_
  refine lv_iconst (v := (1 : Int32)) hx hb dX8_winnersBehind_11 (by decide) ?_
  refine va_iald hx hb hK hP 1 6 rfl rfl (inB_in (by decide : inB (1 : Int32) 55 = true)) dX8_winnersBehind_12 ?_
  refine lv_iload_n hx hb dX8_winnersBehind_13 rfl (lv_at hl 1 rfl) ?_
  refine lv_iadd hx hb dX8_winnersBehind_14 ?_
  refine va_mmin hx hb (hml.trans hl.1.symm) hown (hts (.methodLink RX8 161 Lib.Math.min.name) (List.mem_of_getElem? (i := 2) rfl)) (hts (.static Lib.Math.min.name) (List.mem_of_getElem? (i := 3) rfl)) (hts (.initialized "java/lang/Math") (List.mem_of_getElem? (i := 4) rfl)) (hts (.code Lib.Math.min.name Lib.Math.min.code 2 (some .int)) (List.mem_of_getElem? (i := 5) rfl)) (Nat.le_of_ble_eq_true rfl) (Nat.le_of_ble_eq_true rfl) (Nat.le_of_ble_eq_true rfl) (Nat.le_of_ble_eq_true rfl) dX8_winnersBehind_15 ?_
  refine W.eq (g2 := F0 m 18 ls [.int (jmin (1100 : Int32) ((nN (1 : Int32).toNatClampNeg) + p1)), .int (900 : Int32), .ref aM]) rfl ?_
  refine va_mmax hx hb (hml.trans hl.1.symm) hown (hts (.methodLink RX8 167 Lib.Math.max.name) (List.mem_of_getElem? (i := 6) rfl)) (hts (.static Lib.Math.max.name) (List.mem_of_getElem? (i := 7) rfl)) (hts (.initialized "java/lang/Math") (List.mem_of_getElem? (i := 4) rfl)) (hts (.code Lib.Math.max.name Lib.Math.max.code 2 (some .int)) (List.mem_of_getElem? (i := 8) rfl)) (Nat.le_of_ble_eq_true rfl) (Nat.le_of_ble_eq_true rfl) (Nat.le_of_ble_eq_true rfl) (Nat.le_of_ble_eq_true rfl) dX8_winnersBehind_18 ?_
  refine W.eq (g2 := F0 m 21 ls [.int (jmax (900 : Int32) (jmin (1100 : Int32) ((nN (1 : Int32).toNatClampNeg) + p1))), .ref aM]) rfl ?_
  obtain ⟨v1, hv1, hF⟩ := oB hF
  refine call_i (wr := []) (wn := [(aM, .inr (6, [.ref aMn, .ref aMt, .ref aMk, .int mU, .ref aMs, .int mB, .ref aMl, .int mI, .ref aMx, .int mH, .int mQ, .int mW, .ref aMd, .int mF, .int mR, .int mD, .int mJ, .int mA, .int mT])), (aMn, .inl (K 6, 55, .inl nN))]) (va_runV (As := [.int (jmax (900 : Int32) (jmin (1100 : Int32) ((nN (1 : Int32).toNatClampNeg) + p1)))]) (rest := []) ⟨hx, hb, hml, hown, hts⟩ (c_X8_winnersAt l D K aM aMn aMt aMk aMs aMl aMx aMd mU mB mI mH mQ mW mF mR mD mJ mA mT nN (jmax (900 : Int32) (jmin (1100 : Int32) ((nN (1 : Int32).toNatClampNeg) + p1))) v1 hv1 s.heap.size) (cwV 1 hts gX8_winnersBehind_X8_winnersAt rfl rfl rfl (by decide +kernel) ⟨(Nat.le_of_ble_eq_true rfl), (Nat.le_of_ble_eq_true rfl)⟩) (prV hE hK hP hD hS hA [0, 1] rfl rfl 6 0 rfl rfl rfl) rfl rfl hl.1 rfl (lv_room (Nat.le_of_ble_eq_true rfl)) dX8_winnersBehind_21 ⟨(Nat.le_of_ble_eq_true rfl), (Nat.le_of_ble_eq_true rfl)⟩) hP hD hS hA [0, 1] [] [0, 1] rfl rfl rfl (by decide) rfl rfl (fun H locs hP hD hS => ?_)
  exact fin_i (u := (v1.1, ())) hF hx hb hr hlocks hK hP hD hS (Nat.le_of_ble_eq_true rfl) (Nat.le_of_ble_eq_true rfl) dX8_winnersBehind_24
abbrev RM_X8_wouldWin : Room := { frames := 4, cells := 0, slots := 0, locals := 90 }
abbrev MC_X8_wouldWin : Nat := 0
abbrev MS_X8_wouldWin : Nat := 0
abbrev wf_X8_wouldWin (K : Nat → ClassId) (aM : Nat) (aMn : Nat) (aMt : Nat) (aMk : Nat) (aMs : Nat) (aMl : Nat) (aMx : Nat) (aMd : Nat) (mU : Int32) (mB : Int32) (mI : Int32) (mH : Int32) (mQ : Int32) (mW : Int32) (mF : Int32) (mR : Int32) (mD : Int32) (mJ : Int32) (mA : Int32) (nN : Nat → Int32) (v : Int32 × Int32) : va_W := [(aM, .inr (6, [.ref aMn, .ref aMt, .ref aMk, .int mU, .ref aMs, .int mB, .ref aMl, .int mI, .ref aMx, .int mH, .int mQ, .int mW, .ref aMd, .int mF, .int mR, .int mD, .int mJ, .int mA, .int v.2])), (aMn, .inl (K 6, 55, .inl nN))]
set_option maxHeartbeats 4000000 in
set_option maxRecDepth 100000 in
theorem c_X8_wouldWin (l : Launch) (D : va_G) (K : Nat → ClassId) (aM : Nat) (aMn : Nat) (aMt : Nat) (aMk : Nat) (aMs : Nat) (aMl : Nat) (aMx : Nat) (aMd : Nat) (mU : Int32) (mB : Int32) (mI : Int32) (mH : Int32) (mQ : Int32) (mW : Int32) (mF : Int32) (mR : Int32) (mD : Int32) (mJ : Int32) (mA : Int32) (mT : Int32) (nN : Nat → Int32) (p1 : Int32) (v : Int32 × Int32) (hF : f_X8_wouldWin mT nN p1 = some v) (sz : Nat) :
    (Met l yX8_wouldWin wsX8_wouldWin RM_X8_wouldWin (PC D (TY K) [(aM, .inr (6, [.ref aMn, .ref aMt, .ref aMk, .int mU, .ref aMs, .int mB, .ref aMl, .int mI, .ref aMx, .int mH, .int mQ, .int mW, .ref aMd, .int mF, .int mR, .int mD, .int mJ, .int mA, .int mT])), (aMn, .inl (K 6, 55, .inl nN))] [.ref aM, .int p1] sz) (QI D (TY K) (wf_X8_wouldWin K aM aMn aMt aMk aMs aMl aMx aMd mU mB mI mH mQ mW mF mR mD mJ mA nN) v (va_A [(aM, .inr (6, [.ref aMn, .ref aMt, .ref aMk, .int mU, .ref aMs, .int mB, .ref aMl, .int mI, .ref aMx, .int mH, .int mQ, .int mW, .ref aMd, .int mF, .int mR, .int mD, .int mJ, .int mA, .int mT])), (aMn, .inl (K 6, 55, .inl nN))] sz)) MC_X8_wouldWin MS_X8_wouldWin (va_A [(aM, .inr (6, [.ref aMn, .ref aMt, .ref aMk, .int mU, .ref aMs, .int mB, .ref aMl, .int mI, .ref aMx, .int mH, .int mQ, .int mW, .ref aMd, .int mF, .int mR, .int mD, .int mJ, .int mA, .int mT])), (aMn, .inl (K 6, 55, .inl nN))] sz)) := by
  refine pro (Qf := fun A => QI D (TY K) (wf_X8_wouldWin K aM aMn aMt aMk aMs aMl aMx aMd mU mB mI mH mQ mW mF mR mD mJ mA nN) v A) (cc := cX8_wouldWin) (maxL := 2) (ret := (some .int)) (by decide +kernel) rfl (Nat.le_of_ble_eq_true rfl) ?_
  intro p e s m args below meth c hx hb hr hts hown hlocks hml hini hK A hA hE hP hD hS ls hl
  have hown : s.vm.findClass RX8 = some m.cls := hown
  have hl : lv_has ls 2 [(0, .ref aM), (1, .int p1)] := hl
  rw [f_X8_wouldWin] at hF
  refine lv_aload_n hx hb dX8_wouldWin_0 rfl (lv_at hl 0 rfl) ?_
  refine lv_iload_n hx hb dX8_wouldWin_1 rfl (lv_at hl 1 rfl) ?_
  refine lv_bipush (v := (-40 : Int32)) hx hb dX8_wouldWin_2 (by decide) ?_
  refine lv_bipush (v := (40 : Int32)) hx hb dX8_wouldWin_4 (by decide) ?_
  obtain ⟨v1, hv1, hF⟩ := oB hF
  refine call_i (wr := [(aM, .inr (6, [.ref aMn, .ref aMt, .ref aMk, .int mU, .ref aMs, .int mB, .ref aMl, .int mI, .ref aMx, .int mH, .int mQ, .int mW, .ref aMd, .int mF, .int mR, .int mD, .int mJ, .int mA, .int mT])), (aMn, .inl (K 6, 55, .inl nN))]) (wn := [(aM, .inr (6, [.ref aMn, .ref aMt, .ref aMk, .int mU, .ref aMs, .int mB, .ref aMl, .int mI, .ref aMx, .int mH, .int mQ, .int mW, .ref aMd, .int mF, .int mR, .int mD, .int mJ, .int mA, .int mT])), (aMn, .inl (K 6, 55, .inl nN))]) (va_runS (As := [.int p1, .int (-40 : Int32), .int (40 : Int32)]) (rest := [.ref aM]) ⟨hx, hb, hml, hown, hts⟩ (c_X8_in l D K p1 (-40 : Int32) (40 : Int32) v1 hv1 s.heap.size) (va_cwS 3 hts gX8_wouldWin_X8_in rfl rfl rfl (by decide +kernel) ⟨(Nat.le_of_ble_eq_true rfl), (Nat.le_of_ble_eq_true rfl)⟩) (prS hE hK hP hD hS hA [] rfl rfl) rfl rfl hl.1 rfl (lv_room (Nat.le_of_ble_eq_true rfl)) dX8_wouldWin_6 ⟨(Nat.le_of_ble_eq_true rfl), (Nat.le_of_ble_eq_true rfl)⟩) hP hD hS hA [] [0, 1] [0, 1] rfl rfl rfl (by decide) rfl rfl (fun H locs hP hD hS => ?_)
  refine lv_if_eq (tgt := 16) hx hb dX8_wouldWin_9 (by decide) (fun c2 => ?_) (fun c2 => ?_)
  · have hF := oT c2 hF
    refine lv_iconst (v := (1 : Int32)) hx hb dX8_wouldWin_16 (by decide) ?_
    refine va_put (D := D) (ci := 6) (v := .int (1 : Int32)) (ty := .int) (C := RX8) (T := TX8) (N := 19) hx hb hts (fun _ h => List.mem_cons_of_mem _ (List.mem_append_left _ (List.mem_append_right _ h))) tyX8 tyX8_ok nmX8 hown hK hP hD hS 0 rfl rfl 18 (by decide) (hts (.fieldLink RX8 36 "BarometerClubModel" "thrown" "I") (List.mem_of_getElem? (i := 1) rfl)) (fun _ h9 => h9) rfl (by decide +kernel) rfl rfl (Nat.le_of_ble_eq_true rfl) dX8_wouldWin_17 (fun H locs hP hD hS => ?_)
    have hP : va_P D vwC7 [(aM, .inr (6, [.ref aMn, .ref aMt, .ref aMk, .int mU, .ref aMs, .int mB, .ref aMl, .int mI, .ref aMx, .int mH, .int mQ, .int mW, .ref aMd, .int mF, .int mR, .int mD, .int mJ, .int mA, .int (1 : Int32)])), (aMn, .inl (K 6, 55, .inl nN))] H := hP
    have hD : va_D A [(aM, .inr (6, [.ref aMn, .ref aMt, .ref aMk, .int mU, .ref aMs, .int mB, .ref aMl, .int mI, .ref aMx, .int mH, .int mQ, .int mW, .ref aMd, .int mF, .int mR, .int mD, .int mJ, .int mA, .int (1 : Int32)])), (aMn, .inl (K 6, 55, .inl nN))] := hD
    refine lv_aload_n hx hb dX8_wouldWin_20 rfl (lv_at hl 0 rfl) ?_
    refine va_get (D := D) (ci := 6) (v := .int (1 : Int32)) (C := RX8) (T := TX8) (N := 19) hx hb hts (fun _ h => List.mem_cons_of_mem _ (List.mem_append_left _ (List.mem_append_right _ h))) hown hK hP 0 rfl rfl 18 (by decide) (hts (.fieldLink RX8 36 "BarometerClubModel" "thrown" "I") (List.mem_of_getElem? (i := 1) rfl)) (fun _ h9 => h9) rfl dX8_wouldWin_21 ?_
    refine lv_if_ne (tgt := 35) hx hb dX8_wouldWin_24 (by decide) (fun _ => ?_) (fun c9 => absurd c9 (by decide))
    refine lv_iconst (v := (0 : Int32)) hx hb dX8_wouldWin_35 (by decide) ?_
    exact fin_i (u := ((0 : Int32), (1 : Int32))) hF hx hb hr hlocks hK hP hD hS (Nat.le_of_ble_eq_true rfl) (Nat.le_of_ble_eq_true rfl) dX8_wouldWin_36
  · have hF := oF c2 hF
    refine lv_iconst (v := (0 : Int32)) hx hb dX8_wouldWin_12 (by decide) ?_
    refine lv_goto (tgt := 17) hx hb dX8_wouldWin_13 (by decide) ?_
    refine va_put (D := D) (ci := 6) (v := .int (0 : Int32)) (ty := .int) (C := RX8) (T := TX8) (N := 19) hx hb hts (fun _ h => List.mem_cons_of_mem _ (List.mem_append_left _ (List.mem_append_right _ h))) tyX8 tyX8_ok nmX8 hown hK hP hD hS 0 rfl rfl 18 (by decide) (hts (.fieldLink RX8 36 "BarometerClubModel" "thrown" "I") (List.mem_of_getElem? (i := 1) rfl)) (fun _ h9 => h9) rfl (by decide +kernel) rfl rfl (Nat.le_of_ble_eq_true rfl) dX8_wouldWin_17 (fun H locs hP hD hS => ?_)
    have hP : va_P D vwC7 [(aM, .inr (6, [.ref aMn, .ref aMt, .ref aMk, .int mU, .ref aMs, .int mB, .ref aMl, .int mI, .ref aMx, .int mH, .int mQ, .int mW, .ref aMd, .int mF, .int mR, .int mD, .int mJ, .int mA, .int (0 : Int32)])), (aMn, .inl (K 6, 55, .inl nN))] H := hP
    have hD : va_D A [(aM, .inr (6, [.ref aMn, .ref aMt, .ref aMk, .int mU, .ref aMs, .int mB, .ref aMl, .int mI, .ref aMx, .int mH, .int mQ, .int mW, .ref aMd, .int mF, .int mR, .int mD, .int mJ, .int mA, .int (0 : Int32)])), (aMn, .inl (K 6, 55, .inl nN))] := hD
    refine lv_aload_n hx hb dX8_wouldWin_20 rfl (lv_at hl 0 rfl) ?_
    refine va_get (D := D) (ci := 6) (v := .int (0 : Int32)) (C := RX8) (T := TX8) (N := 19) hx hb hts (fun _ h => List.mem_cons_of_mem _ (List.mem_append_left _ (List.mem_append_right _ h))) hown hK hP 0 rfl rfl 18 (by decide) (hts (.fieldLink RX8 36 "BarometerClubModel" "thrown" "I") (List.mem_of_getElem? (i := 1) rfl)) (fun _ h9 => h9) rfl dX8_wouldWin_21 ?_
    refine lv_if_ne (tgt := 35) hx hb dX8_wouldWin_24 (by decide) (fun c9 => absurd (by decide) c9) (fun _ => ?_)
    refine lv_aload_n hx hb dX8_wouldWin_27 rfl (lv_at hl 0 rfl) ?_
    refine lv_iload_n hx hb dX8_wouldWin_28 rfl (lv_at hl 1 rfl) ?_
    obtain ⟨v5, hv5, hF⟩ := oB hF
    refine call_i (wr := []) (wn := [(aM, .inr (6, [.ref aMn, .ref aMt, .ref aMk, .int mU, .ref aMs, .int mB, .ref aMl, .int mI, .ref aMx, .int mH, .int mQ, .int mW, .ref aMd, .int mF, .int mR, .int mD, .int mJ, .int mA, .int (0 : Int32)])), (aMn, .inl (K 6, 55, .inl nN))]) (va_runV (As := [.int p1]) (rest := []) ⟨hx, hb, hml, hown, hts⟩ (c_X8_winnersBehind l D K aM aMn aMt aMk aMs aMl aMx aMd mU mB mI mH mQ mW mF mR mD mJ mA (0 : Int32) nN p1 v5 hv5 H.size) (cwV 1 hts gX8_wouldWin_X8_winnersBehind rfl rfl rfl (by decide +kernel) ⟨(Nat.le_of_ble_eq_true rfl), (Nat.le_of_ble_eq_true rfl)⟩) (prV hE hK hP hD hS hA [0, 1] rfl rfl 6 0 rfl rfl rfl) rfl rfl hl.1 rfl (lv_room (Nat.le_of_ble_eq_true rfl)) dX8_wouldWin_29 ⟨(Nat.le_of_ble_eq_true rfl), (Nat.le_of_ble_eq_true rfl)⟩) hP hD hS hA [0, 1] [] [0, 1] rfl rfl rfl (by decide) rfl rfl (fun H locs hP hD hS => ?_)
    refine lv_goto (tgt := 36) hx hb dX8_wouldWin_32 (by decide) ?_
    exact fin_i (u := (v5.1, (0 : Int32))) hF hx hb hr hlocks hK hP hD hS (Nat.le_of_ble_eq_true rfl) (Nat.le_of_ble_eq_true rfl) dX8_wouldWin_36
abbrev RM_X8_changeFor : Room := { frames := 4, cells := 0, slots := 0, locals := 90 }
abbrev MC_X8_changeFor : Nat := 0
abbrev MS_X8_changeFor : Nat := 0
abbrev wf_X8_changeFor (K : Nat → ClassId) (aM : Nat) (aMn : Nat) (aMt : Nat) (aMk : Nat) (aMs : Nat) (aMl : Nat) (aMx : Nat) (aMd : Nat) (mU : Int32) (mB : Int32) (mI : Int32) (mH : Int32) (mQ : Int32) (mW : Int32) (mF : Int32) (mR : Int32) (mD : Int32) (mJ : Int32) (mA : Int32) (nN : Nat → Int32) (v : Int32 × Int32) : va_W := [(aM, .inr (6, [.ref aMn, .ref aMt, .ref aMk, .int mU, .ref aMs, .int mB, .ref aMl, .int mI, .ref aMx, .int mH, .int mQ, .int mW, .ref aMd, .int mF, .int mR, .int mD, .int mJ, .int mA, .int v.2])), (aMn, .inl (K 6, 55, .inl nN))]
set_option maxHeartbeats 4000000 in
set_option maxRecDepth 100000 in
theorem c_X8_changeFor (l : Launch) (D : va_G) (K : Nat → ClassId) (aM : Nat) (aMn : Nat) (aMt : Nat) (aMk : Nat) (aMs : Nat) (aMl : Nat) (aMx : Nat) (aMd : Nat) (mU : Int32) (mB : Int32) (mI : Int32) (mH : Int32) (mQ : Int32) (mW : Int32) (mF : Int32) (mR : Int32) (mD : Int32) (mJ : Int32) (mA : Int32) (mT : Int32) (nN : Nat → Int32) (p1 : Int32) (v : Int32 × Int32) (hF : f_X8_changeFor mT nN p1 = some v) (sz : Nat) :
    (Met l yX8_changeFor wsX8_changeFor RM_X8_changeFor (PC D (TY K) [(aM, .inr (6, [.ref aMn, .ref aMt, .ref aMk, .int mU, .ref aMs, .int mB, .ref aMl, .int mI, .ref aMx, .int mH, .int mQ, .int mW, .ref aMd, .int mF, .int mR, .int mD, .int mJ, .int mA, .int mT])), (aMn, .inl (K 6, 55, .inl nN))] [.ref aM, .int p1] sz) (QI D (TY K) (wf_X8_changeFor K aM aMn aMt aMk aMs aMl aMx aMd mU mB mI mH mQ mW mF mR mD mJ mA nN) v (va_A [(aM, .inr (6, [.ref aMn, .ref aMt, .ref aMk, .int mU, .ref aMs, .int mB, .ref aMl, .int mI, .ref aMx, .int mH, .int mQ, .int mW, .ref aMd, .int mF, .int mR, .int mD, .int mJ, .int mA, .int mT])), (aMn, .inl (K 6, 55, .inl nN))] sz)) MC_X8_changeFor MS_X8_changeFor (va_A [(aM, .inr (6, [.ref aMn, .ref aMt, .ref aMk, .int mU, .ref aMs, .int mB, .ref aMl, .int mI, .ref aMx, .int mH, .int mQ, .int mW, .ref aMd, .int mF, .int mR, .int mD, .int mJ, .int mA, .int mT])), (aMn, .inl (K 6, 55, .inl nN))] sz)) := by
  refine pro (Qf := fun A => QI D (TY K) (wf_X8_changeFor K aM aMn aMt aMk aMs aMl aMx aMd mU mB mI mH mQ mW mF mR mD mJ mA nN) v A) (cc := cX8_changeFor) (maxL := 3) (ret := (some .int)) (by decide +kernel) rfl (Nat.le_of_ble_eq_true rfl) ?_
  intro p e s m args below meth c hx hb hr hts hown hlocks hml hini hK A hA hE hP hD hS ls hl
  have hown : s.vm.findClass RX8 = some m.cls := hown
  have hl : lv_has ls 3 [(0, .ref aM), (1, .int p1)] := hl
  have loop_21 : ∀ (y21_1 : Int32) (mT_21 : Int32) (n : Nat) (y21_2 : Int32), f_X8_changeFor_L21 nN y21_1 mT_21 n y21_2 = some v → ∀ (H : Heap) (locs : List Loc), va_P D vwC7 [(aM, .inr (6, [.ref aMn, .ref aMt, .ref aMk, .int mU, .ref aMs, .int mB, .ref aMl, .int mI, .ref aMx, .int mH, .int mQ, .int mW, .ref aMd, .int mF, .int mR, .int mD, .int mJ, .int mA, .int mT_21])), (aMn, .inl (K 6, 55, .inl nN))] H → va_D A [(aM, .inr (6, [.ref aMn, .ref aMt, .ref aMk, .int mU, .ref aMs, .int mB, .ref aMl, .int mI, .ref aMx, .int mH, .int mQ, .int mW, .ref aMd, .int mF, .int mR, .int mD, .int mJ, .int mA, .int mT_21])), (aMn, .inl (K 6, 55, .inl nN))] → va_S A s.heap H locs → ∀ ls : Array Slot, lv_has ls 3 [(0, .ref aM), (1, .int y21_1), (2, .int y21_2)] → W p l e RM_X8_changeFor s m args below meth c H locs 0 0 (MQ below (QI D (TY K) (wf_X8_changeFor K aM aMn aMt aMk aMs aMl aMx aMd mU mB mI mH mQ mW mF mR mD mJ mA nN) v A) args s MC_X8_changeFor MS_X8_changeFor A) (F0 m 21 ls []) := by
    intro y21_1 mT_21 n
    induction n with
    | zero =>
      intro y21_2 hF
      exact nomatch hF
    | succ n ih =>
      intro y21_2 hF H locs hP hD hS ls hl
      rw [f_X8_changeFor_L21.eq_2] at hF
      refine lv_iload_n hx hb dX8_changeFor_21 rfl (lv_at hl 2 rfl) ?_
      refine lv_bipush (v := (41 : Int32)) hx hb dX8_changeFor_22 (by decide) ?_
      refine lv_icmp_ge (tgt := 61) hx hb dX8_changeFor_24 (by decide) (fun c3 => ?_) (fun c3 => ?_)
      · have hF := oT c3 hF
        refine lv_aload_n hx hb dX8_changeFor_61 rfl (lv_at hl 0 rfl) ?_
        refine lv_iconst (v := (2 : Int32)) hx hb dX8_changeFor_62 (by decide) ?_
        obtain ⟨v4, hv4, hF⟩ := oB hF
        refine call_i (wr := [(aMn, .inl (K 6, 55, .inl nN))]) (wn := [(aM, .inr (6, [.ref aMn, .ref aMt, .ref aMk, .int mU, .ref aMs, .int mB, .ref aMl, .int mI, .ref aMx, .int mH, .int mQ, .int mW, .ref aMd, .int mF, .int mR, .int mD, .int mJ, .int mA, .int v4.2])), (aMn, .inl (K 6, 55, .inl nN))]) (va_runV (As := [.int (2 : Int32)]) (rest := []) ⟨hx, hb, hml, hown, hts⟩ (c_X8_raises l D K aM aMn aMt aMk aMs aMl aMx aMd mU mB mI mH mQ mW mF mR mD mJ mA mT_21 (2 : Int32) v4 hv4 H.size) (cwV 1 hts gX8_changeFor_X8_raises rfl rfl rfl (by decide +kernel) ⟨(Nat.le_of_ble_eq_true rfl), (Nat.le_of_ble_eq_true rfl)⟩) (prV hE hK hP hD hS hA [0] rfl rfl 6 0 rfl rfl rfl) rfl rfl hl.1 rfl (lv_room (Nat.le_of_ble_eq_true rfl)) dX8_changeFor_63 ⟨(Nat.le_of_ble_eq_true rfl), (Nat.le_of_ble_eq_true rfl)⟩) hP hD hS hA [0] [1] [1, 0] rfl rfl rfl (by decide) rfl rfl (fun H locs hP hD hS => ?_)
        exact fin_i (u := (v4.1, v4.2)) hF hx hb hr hlocks hK hP hD hS (Nat.le_of_ble_eq_true rfl) (Nat.le_of_ble_eq_true rfl) dX8_changeFor_66
      · have hF := oF c3 hF
        refine lv_aload_n hx hb dX8_changeFor_27 rfl (lv_at hl 0 rfl) ?_
        refine lv_iload_n hx hb dX8_changeFor_28 rfl (lv_at hl 2 rfl) ?_
        refine lv_ineg hx hb dX8_changeFor_29 ?_
        obtain ⟨v5, hv5, hF⟩ := oB hF
        refine call_i (wr := []) (wn := [(aM, .inr (6, [.ref aMn, .ref aMt, .ref aMk, .int mU, .ref aMs, .int mB, .ref aMl, .int mI, .ref aMx, .int mH, .int mQ, .int mW, .ref aMd, .int mF, .int mR, .int mD, .int mJ, .int mA, .int mT_21])), (aMn, .inl (K 6, 55, .inl nN))]) (va_runV (As := [.int (-y21_2)]) (rest := []) ⟨hx, hb, hml, hown, hts⟩ (c_X8_winnersBehind l D K aM aMn aMt aMk aMs aMl aMx aMd mU mB mI mH mQ mW mF mR mD mJ mA mT_21 nN (-y21_2) v5 hv5 H.size) (cwV 1 hts gX8_changeFor_X8_winnersBehind rfl rfl rfl (by decide +kernel) ⟨(Nat.le_of_ble_eq_true rfl), (Nat.le_of_ble_eq_true rfl)⟩) (prV hE hK hP hD hS hA [0, 1] rfl rfl 6 0 rfl rfl rfl) rfl rfl hl.1 rfl (lv_room (Nat.le_of_ble_eq_true rfl)) dX8_changeFor_30 ⟨(Nat.le_of_ble_eq_true rfl), (Nat.le_of_ble_eq_true rfl)⟩) hP hD hS hA [0, 1] [] [0, 1] rfl rfl rfl (by decide) rfl rfl (fun H locs hP hD hS => ?_)
        refine lv_iconst (v := (1 : Int32)) hx hb dX8_changeFor_33 (by decide) ?_
        refine lv_iload_n hx hb dX8_changeFor_34 rfl (lv_at hl 1 rfl) ?_
        refine lv_ishl hx hb dX8_changeFor_35 ?_
        refine lv_icmp_ne (tgt := 42) hx hb dX8_changeFor_36 (by decide) (fun c6 => ?_) (fun c6 => ?_)
        · have hF := oF c6 hF
          refine lv_aload_n hx hb dX8_changeFor_42 rfl (lv_at hl 0 rfl) ?_
          refine lv_iload_n hx hb dX8_changeFor_43 rfl (lv_at hl 2 rfl) ?_
          obtain ⟨v7, hv7, hF⟩ := oB hF
          refine call_i (wr := []) (wn := [(aM, .inr (6, [.ref aMn, .ref aMt, .ref aMk, .int mU, .ref aMs, .int mB, .ref aMl, .int mI, .ref aMx, .int mH, .int mQ, .int mW, .ref aMd, .int mF, .int mR, .int mD, .int mJ, .int mA, .int mT_21])), (aMn, .inl (K 6, 55, .inl nN))]) (va_runV (As := [.int y21_2]) (rest := []) ⟨hx, hb, hml, hown, hts⟩ (c_X8_winnersBehind l D K aM aMn aMt aMk aMs aMl aMx aMd mU mB mI mH mQ mW mF mR mD mJ mA mT_21 nN y21_2 v7 hv7 H.size) (cwV 1 hts gX8_changeFor_X8_winnersBehind rfl rfl rfl (by decide +kernel) ⟨(Nat.le_of_ble_eq_true rfl), (Nat.le_of_ble_eq_true rfl)⟩) (prV hE hK hP hD hS hA [0, 1] rfl rfl 6 0 rfl rfl rfl) rfl rfl hl.1 rfl (lv_room (Nat.le_of_ble_eq_true rfl)) dX8_changeFor_44 ⟨(Nat.le_of_ble_eq_true rfl), (Nat.le_of_ble_eq_true rfl)⟩) hP hD hS hA [0, 1] [] [0, 1] rfl rfl rfl (by decide) rfl rfl (fun H locs hP hD hS => ?_)
          refine lv_iconst (v := (1 : Int32)) hx hb dX8_changeFor_47 (by decide) ?_
          refine lv_iload_n hx hb dX8_changeFor_48 rfl (lv_at hl 1 rfl) ?_
          refine lv_ishl hx hb dX8_changeFor_49 ?_
          refine lv_icmp_ne (tgt := 55) hx hb dX8_changeFor_50 (by decide) (fun c8 => ?_) (fun c8 => ?_)
          · have hF := oF c8 hF
            refine lv_iinc (v := y21_2 + (1 : Int32)) (lv' := [(2, .int (y21_2 + (1 : Int32))), (0, .ref aM), (1, .int y21_1)]) hx hb dX8_changeFor_55 hl (k := 2) rfl (by first | rfl | decide) (by decide) rfl (fun ls hl => ?_)
            refine lv_goto (tgt := 21) hx hb dX8_changeFor_58 (by decide) ?_
            exact ih (y21_2 + (1 : Int32)) hF _ _ hP hD hS _ (lv_sub hl [1, 2, 0] rfl)
          · have hF := oT c8 hF
            refine lv_iload_n hx hb dX8_changeFor_53 rfl (lv_at hl 2 rfl) ?_
            exact fin_i (u := (y21_2, mT_21)) hF hx hb hr hlocks hK hP hD hS (Nat.le_of_ble_eq_true rfl) (Nat.le_of_ble_eq_true rfl) dX8_changeFor_54
        · have hF := oT c6 hF
          refine lv_iload_n hx hb dX8_changeFor_39 rfl (lv_at hl 2 rfl) ?_
          refine lv_ineg hx hb dX8_changeFor_40 ?_
          exact fin_i (u := (-y21_2, mT_21)) hF hx hb hr hlocks hK hP hD hS (Nat.le_of_ble_eq_true rfl) (Nat.le_of_ble_eq_true rfl) dX8_changeFor_41
  rw [f_X8_changeFor] at hF
  refine lv_aload_n hx hb dX8_changeFor_0 rfl (lv_at hl 0 rfl) ?_
  refine lv_iconst (v := (0 : Int32)) hx hb dX8_changeFor_1 (by decide) ?_
  refine va_put (D := D) (ci := 6) (v := .int (0 : Int32)) (ty := .int) (C := RX8) (T := TX8) (N := 19) hx hb hts (fun _ h => List.mem_cons_of_mem _ (List.mem_append_left _ (List.mem_append_right _ h))) tyX8 tyX8_ok nmX8 hown hK hP hD hS 0 rfl rfl 18 (by decide) (hts (.fieldLink RX8 36 "BarometerClubModel" "thrown" "I") (List.mem_of_getElem? (i := 1) rfl)) (fun _ h9 => h9) rfl (by decide +kernel) rfl rfl (Nat.le_of_ble_eq_true rfl) dX8_changeFor_2 (fun H locs hP hD hS => ?_)
  have hP : va_P D vwC7 [(aM, .inr (6, [.ref aMn, .ref aMt, .ref aMk, .int mU, .ref aMs, .int mB, .ref aMl, .int mI, .ref aMx, .int mH, .int mQ, .int mW, .ref aMd, .int mF, .int mR, .int mD, .int mJ, .int mA, .int (0 : Int32)])), (aMn, .inl (K 6, 55, .inl nN))] H := hP
  have hD : va_D A [(aM, .inr (6, [.ref aMn, .ref aMt, .ref aMk, .int mU, .ref aMs, .int mB, .ref aMl, .int mI, .ref aMx, .int mH, .int mQ, .int mW, .ref aMd, .int mF, .int mR, .int mD, .int mJ, .int mA, .int (0 : Int32)])), (aMn, .inl (K 6, 55, .inl nN))] := hD
  refine lv_aload_n hx hb dX8_changeFor_5 rfl (lv_at hl 0 rfl) ?_
  refine lv_iload_n hx hb dX8_changeFor_6 rfl (lv_at hl 1 rfl) ?_
  obtain ⟨v1, hv1, hF⟩ := oB hF
  refine call_i (wr := []) (wn := [(aM, .inr (6, [.ref aMn, .ref aMt, .ref aMk, .int mU, .ref aMs, .int mB, .ref aMl, .int mI, .ref aMx, .int mH, .int mQ, .int mW, .ref aMd, .int mF, .int mR, .int mD, .int mJ, .int mA, .int (0 : Int32)])), (aMn, .inl (K 6, 55, .inl nN))]) (va_runV (As := [.int p1]) (rest := []) ⟨hx, hb, hml, hown, hts⟩ (c_X8_isMember l D K aM aMn aMt aMk aMs aMl aMx aMd mU mB mI mH mQ mW mF mR mD mJ mA (0 : Int32) nN p1 v1 hv1 H.size) (cwV 1 hts gX8_changeFor_X8_isMember rfl rfl rfl (by decide +kernel) ⟨(Nat.le_of_ble_eq_true rfl), (Nat.le_of_ble_eq_true rfl)⟩) (prV hE hK hP hD hS hA [0, 1] rfl rfl 6 0 rfl rfl rfl) rfl rfl hl.1 rfl (lv_room (Nat.le_of_ble_eq_true rfl)) dX8_changeFor_7 ⟨(Nat.le_of_ble_eq_true rfl), (Nat.le_of_ble_eq_true rfl)⟩) hP hD hS hA [0, 1] [] [0, 1] rfl rfl rfl (by decide) rfl rfl (fun H locs hP hD hS => ?_)
  refine lv_if_ne (tgt := 19) hx hb dX8_changeFor_10 (by decide) (fun c2 => ?_) (fun c2 => ?_)
  · have hF := oF c2 hF
    refine lv_iconst (v := (0 : Int32)) hx hb dX8_changeFor_19 (by decide) ?_
    refine lv_istore_n (lv' := [(2, .int (0 : Int32)), (0, .ref aM), (1, .int p1)]) hx hb dX8_changeFor_20 rfl hl (by decide) rfl (fun ls hl => ?_)
    exact loop_21 p1 (0 : Int32) FU (0 : Int32) hF _ _ hP hD hS _ (lv_sub hl [1, 2, 0] rfl)
  · have hF := oT c2 hF
    refine lv_aload_n hx hb dX8_changeFor_13 rfl (lv_at hl 0 rfl) ?_
    refine lv_iconst (v := (1 : Int32)) hx hb dX8_changeFor_14 (by decide) ?_
    obtain ⟨v9, hv9, hF⟩ := oB hF
    refine call_i (wr := [(aMn, .inl (K 6, 55, .inl nN))]) (wn := [(aM, .inr (6, [.ref aMn, .ref aMt, .ref aMk, .int mU, .ref aMs, .int mB, .ref aMl, .int mI, .ref aMx, .int mH, .int mQ, .int mW, .ref aMd, .int mF, .int mR, .int mD, .int mJ, .int mA, .int v9.2])), (aMn, .inl (K 6, 55, .inl nN))]) (va_runV (As := [.int (1 : Int32)]) (rest := []) ⟨hx, hb, hml, hown, hts⟩ (c_X8_raises l D K aM aMn aMt aMk aMs aMl aMx aMd mU mB mI mH mQ mW mF mR mD mJ mA (0 : Int32) (1 : Int32) v9 hv9 H.size) (cwV 1 hts gX8_changeFor_X8_raises rfl rfl rfl (by decide +kernel) ⟨(Nat.le_of_ble_eq_true rfl), (Nat.le_of_ble_eq_true rfl)⟩) (prV hE hK hP hD hS hA [0] rfl rfl 6 0 rfl rfl rfl) rfl rfl hl.1 rfl (lv_room (Nat.le_of_ble_eq_true rfl)) dX8_changeFor_15 ⟨(Nat.le_of_ble_eq_true rfl), (Nat.le_of_ble_eq_true rfl)⟩) hP hD hS hA [0] [1] [1, 0] rfl rfl rfl (by decide) rfl rfl (fun H locs hP hD hS => ?_)
    exact fin_i (u := (v9.1, v9.2)) hF hx hb hr hlocks hK hP hD hS (Nat.le_of_ble_eq_true rfl) (Nat.le_of_ble_eq_true rfl) dX8_changeFor_18
abbrev RM_X8_bestGuess : Room := { frames := 2, cells := 0, slots := 0, locals := 44 }
abbrev MC_X8_bestGuess : Nat := 0
abbrev MS_X8_bestGuess : Nat := 0
abbrev wf_X8_bestGuess (K : Nat → ClassId) (aM : Nat) (aMn : Nat) (aMt : Nat) (aMk : Nat) (aMs : Nat) (aMl : Nat) (aMx : Nat) (aMd : Nat) (mU : Int32) (mB : Int32) (mI : Int32) (mH : Int32) (mQ : Int32) (mW : Int32) (mF : Int32) (mR : Int32) (mD : Int32) (mJ : Int32) (mA : Int32) (nN : Nat → Int32) (v : Int32 × Int32) : va_W := [(aM, .inr (6, [.ref aMn, .ref aMt, .ref aMk, .int mU, .ref aMs, .int mB, .ref aMl, .int mI, .ref aMx, .int mH, .int mQ, .int mW, .ref aMd, .int mF, .int mR, .int mD, .int mJ, .int mA, .int v.2])), (aMn, .inl (K 6, 55, .inl nN))]
set_option maxHeartbeats 4000000 in
set_option maxRecDepth 100000 in
theorem c_X8_bestGuess (l : Launch) (D : va_G) (K : Nat → ClassId) (aM : Nat) (aMn : Nat) (aMt : Nat) (aMk : Nat) (aMs : Nat) (aMl : Nat) (aMx : Nat) (aMd : Nat) (mU : Int32) (mB : Int32) (mI : Int32) (mH : Int32) (mQ : Int32) (mW : Int32) (mF : Int32) (mR : Int32) (mD : Int32) (mJ : Int32) (mA : Int32) (mT : Int32) (nN : Nat → Int32) (p1 : Int32) (v : Int32 × Int32) (hF : f_X8_bestGuess mT nN p1 = some v) (sz : Nat) :
    (Met l yX8_bestGuess wsX8_bestGuess RM_X8_bestGuess (PC D (TY K) [(aM, .inr (6, [.ref aMn, .ref aMt, .ref aMk, .int mU, .ref aMs, .int mB, .ref aMl, .int mI, .ref aMx, .int mH, .int mQ, .int mW, .ref aMd, .int mF, .int mR, .int mD, .int mJ, .int mA, .int mT])), (aMn, .inl (K 6, 55, .inl nN))] [.ref aM, .int p1] sz) (QI D (TY K) (wf_X8_bestGuess K aM aMn aMt aMk aMs aMl aMx aMd mU mB mI mH mQ mW mF mR mD mJ mA nN) v (va_A [(aM, .inr (6, [.ref aMn, .ref aMt, .ref aMk, .int mU, .ref aMs, .int mB, .ref aMl, .int mI, .ref aMx, .int mH, .int mQ, .int mW, .ref aMd, .int mF, .int mR, .int mD, .int mJ, .int mA, .int mT])), (aMn, .inl (K 6, 55, .inl nN))] sz)) MC_X8_bestGuess MS_X8_bestGuess (va_A [(aM, .inr (6, [.ref aMn, .ref aMt, .ref aMk, .int mU, .ref aMs, .int mB, .ref aMl, .int mI, .ref aMx, .int mH, .int mQ, .int mW, .ref aMd, .int mF, .int mR, .int mD, .int mJ, .int mA, .int mT])), (aMn, .inl (K 6, 55, .inl nN))] sz)) := by
  refine pro (Qf := fun A => QI D (TY K) (wf_X8_bestGuess K aM aMn aMt aMk aMs aMl aMx aMd mU mB mI mH mQ mW mF mR mD mJ mA nN) v A) (cc := cX8_bestGuess) (maxL := 2) (ret := (some .int)) (by decide +kernel) rfl (Nat.le_of_ble_eq_true rfl) ?_
  intro p e s m args below meth c hx hb hr hts hown hlocks hml hini hK A hA hE hP hD hS ls hl
  have hown : s.vm.findClass RX8 = some m.cls := hown
  have hl : lv_has ls 2 [(0, .ref aM), (1, .int p1)] := hl
  rw [f_X8_bestGuess] at hF
  refine lv_aload_n hx hb dX8_bestGuess_0 rfl (lv_at hl 0 rfl) ?_
  refine lv_aload_n hx hb dX8_bestGuess_1 rfl (lv_at hl 0 rfl) ?_
  refine lv_iload_n hx hb dX8_bestGuess_2 rfl (lv_at hl 1 rfl) ?_
  obtain ⟨v1, hv1, hF⟩ := oB hF
  refine call_i (wr := []) (wn := [(aM, .inr (6, [.ref aMn, .ref aMt, .ref aMk, .int mU, .ref aMs, .int mB, .ref aMl, .int mI, .ref aMx, .int mH, .int mQ, .int mW, .ref aMd, .int mF, .int mR, .int mD, .int mJ, .int mA, .int mT])), (aMn, .inl (K 6, 55, .inl nN))]) (va_runV (As := [.int p1]) (rest := [.ref aM]) ⟨hx, hb, hml, hown, hts⟩ (c_X8_isMember l D K aM aMn aMt aMk aMs aMl aMx aMd mU mB mI mH mQ mW mF mR mD mJ mA mT nN p1 v1 hv1 s.heap.size) (cwV 1 hts gX8_bestGuess_X8_isMember rfl rfl rfl (by decide +kernel) ⟨(Nat.le_of_ble_eq_true rfl), (Nat.le_of_ble_eq_true rfl)⟩) (prV hE hK hP hD hS hA [0, 1] rfl rfl 6 0 rfl rfl rfl) rfl rfl hl.1 rfl (lv_room (Nat.le_of_ble_eq_true rfl)) dX8_bestGuess_3 ⟨(Nat.le_of_ble_eq_true rfl), (Nat.le_of_ble_eq_true rfl)⟩) hP hD hS hA [0, 1] [] [0, 1] rfl rfl rfl (by decide) rfl rfl (fun H locs hP hD hS => ?_)
  refine lv_if_eq (tgt := 13) hx hb dX8_bestGuess_6 (by decide) (fun c2 => ?_) (fun c2 => ?_)
  · have hF := oT c2 hF
    refine lv_iconst (v := (1 : Int32)) hx hb dX8_bestGuess_13 (by decide) ?_
    refine va_put (D := D) (ci := 6) (v := .int (1 : Int32)) (ty := .int) (C := RX8) (T := TX8) (N := 19) hx hb hts (fun _ h => List.mem_cons_of_mem _ (List.mem_append_left _ (List.mem_append_right _ h))) tyX8 tyX8_ok nmX8 hown hK hP hD hS 0 rfl rfl 18 (by decide) (hts (.fieldLink RX8 36 "BarometerClubModel" "thrown" "I") (List.mem_of_getElem? (i := 1) rfl)) (fun _ h9 => h9) rfl (by decide +kernel) rfl rfl (Nat.le_of_ble_eq_true rfl) dX8_bestGuess_14 (fun H locs hP hD hS => ?_)
    have hP : va_P D vwC7 [(aM, .inr (6, [.ref aMn, .ref aMt, .ref aMk, .int mU, .ref aMs, .int mB, .ref aMl, .int mI, .ref aMx, .int mH, .int mQ, .int mW, .ref aMd, .int mF, .int mR, .int mD, .int mJ, .int mA, .int (1 : Int32)])), (aMn, .inl (K 6, 55, .inl nN))] H := hP
    have hD : va_D A [(aM, .inr (6, [.ref aMn, .ref aMt, .ref aMk, .int mU, .ref aMs, .int mB, .ref aMl, .int mI, .ref aMx, .int mH, .int mQ, .int mW, .ref aMd, .int mF, .int mR, .int mD, .int mJ, .int mA, .int (1 : Int32)])), (aMn, .inl (K 6, 55, .inl nN))] := hD
    refine lv_aload_n hx hb dX8_bestGuess_17 rfl (lv_at hl 0 rfl) ?_
    refine va_get (D := D) (ci := 6) (v := .int (1 : Int32)) (C := RX8) (T := TX8) (N := 19) hx hb hts (fun _ h => List.mem_cons_of_mem _ (List.mem_append_left _ (List.mem_append_right _ h))) hown hK hP 0 rfl rfl 18 (by decide) (hts (.fieldLink RX8 36 "BarometerClubModel" "thrown" "I") (List.mem_of_getElem? (i := 1) rfl)) (fun _ h9 => h9) rfl dX8_bestGuess_18 ?_
    refine lv_if_ne (tgt := 50) hx hb dX8_bestGuess_21 (by decide) (fun _ => ?_) (fun c9 => absurd c9 (by decide))
    refine lv_iconst (v := (0 : Int32)) hx hb dX8_bestGuess_50 (by decide) ?_
    exact fin_i (u := ((0 : Int32), (1 : Int32))) hF hx hb hr hlocks hK hP hD hS (Nat.le_of_ble_eq_true rfl) (Nat.le_of_ble_eq_true rfl) dX8_bestGuess_51
  · have hF := oF c2 hF
    refine lv_iconst (v := (0 : Int32)) hx hb dX8_bestGuess_9 (by decide) ?_
    refine lv_goto (tgt := 14) hx hb dX8_bestGuess_10 (by decide) ?_
    refine va_put (D := D) (ci := 6) (v := .int (0 : Int32)) (ty := .int) (C := RX8) (T := TX8) (N := 19) hx hb hts (fun _ h => List.mem_cons_of_mem _ (List.mem_append_left _ (List.mem_append_right _ h))) tyX8 tyX8_ok nmX8 hown hK hP hD hS 0 rfl rfl 18 (by decide) (hts (.fieldLink RX8 36 "BarometerClubModel" "thrown" "I") (List.mem_of_getElem? (i := 1) rfl)) (fun _ h9 => h9) rfl (by decide +kernel) rfl rfl (Nat.le_of_ble_eq_true rfl) dX8_bestGuess_14 (fun H locs hP hD hS => ?_)
    have hP : va_P D vwC7 [(aM, .inr (6, [.ref aMn, .ref aMt, .ref aMk, .int mU, .ref aMs, .int mB, .ref aMl, .int mI, .ref aMx, .int mH, .int mQ, .int mW, .ref aMd, .int mF, .int mR, .int mD, .int mJ, .int mA, .int (0 : Int32)])), (aMn, .inl (K 6, 55, .inl nN))] H := hP
    have hD : va_D A [(aM, .inr (6, [.ref aMn, .ref aMt, .ref aMk, .int mU, .ref aMs, .int mB, .ref aMl, .int mI, .ref aMx, .int mH, .int mQ, .int mW, .ref aMd, .int mF, .int mR, .int mD, .int mJ, .int mA, .int (0 : Int32)])), (aMn, .inl (K 6, 55, .inl nN))] := hD
    refine lv_aload_n hx hb dX8_bestGuess_17 rfl (lv_at hl 0 rfl) ?_
    refine va_get (D := D) (ci := 6) (v := .int (0 : Int32)) (C := RX8) (T := TX8) (N := 19) hx hb hts (fun _ h => List.mem_cons_of_mem _ (List.mem_append_left _ (List.mem_append_right _ h))) hown hK hP 0 rfl rfl 18 (by decide) (hts (.fieldLink RX8 36 "BarometerClubModel" "thrown" "I") (List.mem_of_getElem? (i := 1) rfl)) (fun _ h9 => h9) rfl dX8_bestGuess_18 ?_
    refine lv_if_ne (tgt := 50) hx hb dX8_bestGuess_21 (by decide) (fun c9 => absurd (by decide) c9) (fun _ => ?_)
    refine lv_sipush (v := (700 : Int32)) hx hb dX8_bestGuess_24 (by decide) ?_
    refine lv_sipush (v := (1100 : Int32)) hx hb dX8_bestGuess_27 (by decide) ?_
    refine lv_aload_n hx hb dX8_bestGuess_30 rfl (lv_at hl 0 rfl) ?_
    refine lv_iload_n hx hb dX8_bestGuess_31 rfl (lv_at hl 1 rfl) ?_
    refine lv_aload_n hx hb dX8_bestGuess_32 rfl (lv_at hl 0 rfl) ?_
    refine va_get (D := D) (ci := 6) (v := .ref aMn) (C := RX8) (T := TX8) (N := 19) hx hb hts (fun _ h => List.mem_cons_of_mem _ (List.mem_append_left _ (List.mem_append_right _ h))) hown hK hP 0 rfl rfl 0 (by decide) (hts (.fieldLink RX8 9 "BarometerClubModel" "now" "[I") (List.mem_of_getElem? (i := 2) rfl)) (fun _ h9 => h9) rfl dX8_bestGuess_33 ?_
    refine lv_iconst (v := (1 : Int32)) hx hb dX8_bestGuess_36 (by decide) ?_
    refine va_iald hx hb hK hP 1 6 rfl rfl (inB_in (by decide : inB (1 : Int32) 55 = true)) dX8_bestGuess_37 ?_
    obtain ⟨v5, hv5, hF⟩ := oB hF
    refine call_i (wr := []) (wn := [(aM, .inr (6, [.ref aMn, .ref aMt, .ref aMk, .int mU, .ref aMs, .int mB, .ref aMl, .int mI, .ref aMx, .int mH, .int mQ, .int mW, .ref aMd, .int mF, .int mR, .int mD, .int mJ, .int mA, .int (0 : Int32)])), (aMn, .inl (K 6, 55, .inl nN))]) (va_runV (As := [.int p1, .int (nN (1 : Int32).toNatClampNeg)]) (rest := [.int (1100 : Int32), .int (700 : Int32)]) ⟨hx, hb, hml, hown, hts⟩ (c_X8_needleAt l D K aM aMn aMt aMk aMs aMl aMx aMd mU mB mI mH mQ mW mF mR mD mJ mA (0 : Int32) nN p1 (nN (1 : Int32).toNatClampNeg) v5 hv5 H.size) (cwV 2 hts gX8_bestGuess_X8_needleAt rfl rfl rfl (by decide +kernel) ⟨(Nat.le_of_ble_eq_true rfl), (Nat.le_of_ble_eq_true rfl)⟩) (prV hE hK hP hD hS hA [0, 1] rfl rfl 6 0 rfl rfl rfl) rfl rfl hl.1 rfl (lv_room (Nat.le_of_ble_eq_true rfl)) dX8_bestGuess_38 ⟨(Nat.le_of_ble_eq_true rfl), (Nat.le_of_ble_eq_true rfl)⟩) hP hD hS hA [0, 1] [] [0, 1] rfl rfl rfl (by decide) rfl rfl (fun H locs hP hD hS => ?_)
    refine va_mmin hx hb (hml.trans hl.1.symm) hown (hts (.methodLink RX8 161 Lib.Math.min.name) (List.mem_of_getElem? (i := 3) rfl)) (hts (.static Lib.Math.min.name) (List.mem_of_getElem? (i := 4) rfl)) (hts (.initialized "java/lang/Math") (List.mem_of_getElem? (i := 5) rfl)) (hts (.code Lib.Math.min.name Lib.Math.min.code 2 (some .int)) (List.mem_of_getElem? (i := 6) rfl)) (Nat.le_of_ble_eq_true rfl) (Nat.le_of_ble_eq_true rfl) (Nat.le_of_ble_eq_true rfl) (Nat.le_of_ble_eq_true rfl) dX8_bestGuess_41 ?_
    refine W.eq (g2 := F0 m 44 ls [.int (jmin (1100 : Int32) v5.1), .int (700 : Int32)]) rfl ?_
    refine va_mmax hx hb (hml.trans hl.1.symm) hown (hts (.methodLink RX8 167 Lib.Math.max.name) (List.mem_of_getElem? (i := 7) rfl)) (hts (.static Lib.Math.max.name) (List.mem_of_getElem? (i := 8) rfl)) (hts (.initialized "java/lang/Math") (List.mem_of_getElem? (i := 5) rfl)) (hts (.code Lib.Math.max.name Lib.Math.max.code 2 (some .int)) (List.mem_of_getElem? (i := 9) rfl)) (Nat.le_of_ble_eq_true rfl) (Nat.le_of_ble_eq_true rfl) (Nat.le_of_ble_eq_true rfl) (Nat.le_of_ble_eq_true rfl) dX8_bestGuess_44 ?_
    refine W.eq (g2 := F0 m 47 ls [.int (jmax (700 : Int32) (jmin (1100 : Int32) v5.1))]) rfl ?_
    refine lv_goto (tgt := 51) hx hb dX8_bestGuess_47 (by decide) ?_
    exact fin_i (u := (jmax (700 : Int32) (jmin (1100 : Int32) v5.1), (0 : Int32))) hF hx hb hr hlocks hK hP hD hS (Nat.le_of_ble_eq_true rfl) (Nat.le_of_ble_eq_true rfl) dX8_bestGuess_51
abbrev RM_X8_nearestFree : Room := { frames := 2, cells := 0, slots := 0, locals := 44 }
abbrev MC_X8_nearestFree : Nat := 0
abbrev MS_X8_nearestFree : Nat := 0
abbrev wf_X8_nearestFree (K : Nat → ClassId) (aM : Nat) (aMn : Nat) (aMt : Nat) (aMk : Nat) (aMs : Nat) (aMl : Nat) (aMx : Nat) (aMd : Nat) (mU : Int32) (mB : Int32) (mI : Int32) (mH : Int32) (mQ : Int32) (mW : Int32) (mF : Int32) (mR : Int32) (mD : Int32) (mJ : Int32) (mA : Int32) (nN : Nat → Int32) (v : Int32 × Int32) : va_W := [(aM, .inr (6, [.ref aMn, .ref aMt, .ref aMk, .int mU, .ref aMs, .int mB, .ref aMl, .int mI, .ref aMx, .int mH, .int mQ, .int mW, .ref aMd, .int mF, .int mR, .int mD, .int mJ, .int mA, .int v.2])), (aMn, .inl (K 6, 55, .inl nN))]
set_option maxHeartbeats 4000000 in
set_option maxRecDepth 100000 in
theorem c_X8_nearestFree (l : Launch) (D : va_G) (K : Nat → ClassId) (aM : Nat) (aMn : Nat) (aMt : Nat) (aMk : Nat) (aMs : Nat) (aMl : Nat) (aMx : Nat) (aMd : Nat) (mU : Int32) (mB : Int32) (mI : Int32) (mH : Int32) (mQ : Int32) (mW : Int32) (mF : Int32) (mR : Int32) (mD : Int32) (mJ : Int32) (mA : Int32) (mT : Int32) (nN : Nat → Int32) (p1 : Int32) (v : Int32 × Int32) (hF : f_X8_nearestFree mT nN p1 = some v) (sz : Nat) :
    (Met l yX8_nearestFree wsX8_nearestFree RM_X8_nearestFree (PC D (TY K) [(aM, .inr (6, [.ref aMn, .ref aMt, .ref aMk, .int mU, .ref aMs, .int mB, .ref aMl, .int mI, .ref aMx, .int mH, .int mQ, .int mW, .ref aMd, .int mF, .int mR, .int mD, .int mJ, .int mA, .int mT])), (aMn, .inl (K 6, 55, .inl nN))] [.ref aM, .int p1] sz) (QI D (TY K) (wf_X8_nearestFree K aM aMn aMt aMk aMs aMl aMx aMd mU mB mI mH mQ mW mF mR mD mJ mA nN) v (va_A [(aM, .inr (6, [.ref aMn, .ref aMt, .ref aMk, .int mU, .ref aMs, .int mB, .ref aMl, .int mI, .ref aMx, .int mH, .int mQ, .int mW, .ref aMd, .int mF, .int mR, .int mD, .int mJ, .int mA, .int mT])), (aMn, .inl (K 6, 55, .inl nN))] sz)) MC_X8_nearestFree MS_X8_nearestFree (va_A [(aM, .inr (6, [.ref aMn, .ref aMt, .ref aMk, .int mU, .ref aMs, .int mB, .ref aMl, .int mI, .ref aMx, .int mH, .int mQ, .int mW, .ref aMd, .int mF, .int mR, .int mD, .int mJ, .int mA, .int mT])), (aMn, .inl (K 6, 55, .inl nN))] sz)) := by
  refine pro (Qf := fun A => QI D (TY K) (wf_X8_nearestFree K aM aMn aMt aMk aMs aMl aMx aMd mU mB mI mH mQ mW mF mR mD mJ mA nN) v A) (cc := cX8_nearestFree) (maxL := 4) (ret := (some .int)) (by decide +kernel) rfl (Nat.le_of_ble_eq_true rfl) ?_
  intro p e s m args below meth c hx hb hr hts hown hlocks hml hini hK A hA hE hP hD hS ls hl
  have hown : s.vm.findClass RX8 = some m.cls := hown
  have hl : lv_has ls 4 [(0, .ref aM), (1, .int p1)] := hl
  have loop_28 : ∀ (y28_1 : Int32) (y28_2 : Int32) (mT_28 : Int32) (n : Nat) (y28_3 : Int32), f_X8_nearestFree_L28 nN y28_1 y28_2 mT_28 n y28_3 = some v → ∀ (H : Heap) (locs : List Loc), va_P D vwC7 [(aM, .inr (6, [.ref aMn, .ref aMt, .ref aMk, .int mU, .ref aMs, .int mB, .ref aMl, .int mI, .ref aMx, .int mH, .int mQ, .int mW, .ref aMd, .int mF, .int mR, .int mD, .int mJ, .int mA, .int mT_28])), (aMn, .inl (K 6, 55, .inl nN))] H → va_D A [(aM, .inr (6, [.ref aMn, .ref aMt, .ref aMk, .int mU, .ref aMs, .int mB, .ref aMl, .int mI, .ref aMx, .int mH, .int mQ, .int mW, .ref aMd, .int mF, .int mR, .int mD, .int mJ, .int mA, .int mT_28])), (aMn, .inl (K 6, 55, .inl nN))] → va_S A s.heap H locs → ∀ ls : Array Slot, lv_has ls 4 [(0, .ref aM), (1, .int y28_1), (2, .int y28_2), (3, .int y28_3)] → W p l e RM_X8_nearestFree s m args below meth c H locs 0 0 (MQ below (QI D (TY K) (wf_X8_nearestFree K aM aMn aMt aMk aMs aMl aMx aMd mU mB mI mH mQ mW mF mR mD mJ mA nN) v A) args s MC_X8_nearestFree MS_X8_nearestFree A) (F0 m 28 ls []) := by
    intro y28_1 y28_2 mT_28 n
    induction n with
    | zero =>
      intro y28_3 hF
      exact nomatch hF
    | succ n ih =>
      intro y28_3 hF H locs hP hD hS ls hl
      rw [f_X8_nearestFree_L28.eq_2] at hF
      refine lv_iload_n hx hb dX8_nearestFree_28 rfl (lv_at hl 3 rfl) ?_
      refine lv_bipush (v := (10 : Int32)) hx hb dX8_nearestFree_29 (by decide) ?_
      refine lv_icmp_ge (tgt := 94) hx hb dX8_nearestFree_31 (by decide) (fun c4 => ?_) (fun c4 => ?_)
      · have hF := oT c4 hF
        refine lv_aload_n hx hb dX8_nearestFree_94 rfl (lv_at hl 0 rfl) ?_
        refine lv_iconst (v := (2 : Int32)) hx hb dX8_nearestFree_95 (by decide) ?_
        obtain ⟨v5, hv5, hF⟩ := oB hF
        refine call_i (wr := [(aMn, .inl (K 6, 55, .inl nN))]) (wn := [(aM, .inr (6, [.ref aMn, .ref aMt, .ref aMk, .int mU, .ref aMs, .int mB, .ref aMl, .int mI, .ref aMx, .int mH, .int mQ, .int mW, .ref aMd, .int mF, .int mR, .int mD, .int mJ, .int mA, .int v5.2])), (aMn, .inl (K 6, 55, .inl nN))]) (va_runV (As := [.int (2 : Int32)]) (rest := []) ⟨hx, hb, hml, hown, hts⟩ (c_X8_raises l D K aM aMn aMt aMk aMs aMl aMx aMd mU mB mI mH mQ mW mF mR mD mJ mA mT_28 (2 : Int32) v5 hv5 H.size) (cwV 1 hts gX8_nearestFree_X8_raises rfl rfl rfl (by decide +kernel) ⟨(Nat.le_of_ble_eq_true rfl), (Nat.le_of_ble_eq_true rfl)⟩) (prV hE hK hP hD hS hA [0] rfl rfl 6 0 rfl rfl rfl) rfl rfl hl.1 rfl (lv_room (Nat.le_of_ble_eq_true rfl)) dX8_nearestFree_96 ⟨(Nat.le_of_ble_eq_true rfl), (Nat.le_of_ble_eq_true rfl)⟩) hP hD hS hA [0] [1] [1, 0] rfl rfl rfl (by decide) rfl rfl (fun H locs hP hD hS => ?_)
        exact fin_i (u := (v5.1, v5.2)) hF hx hb hr hlocks hK hP hD hS (Nat.le_of_ble_eq_true rfl) (Nat.le_of_ble_eq_true rfl) dX8_nearestFree_99
      · have hF := oF c4 hF
        refine lv_iconst (v := (2 : Int32)) hx hb dX8_nearestFree_34 (by decide) ?_
        refine lv_iload_n hx hb dX8_nearestFree_35 rfl (lv_at hl 3 rfl) ?_
        refine lv_imul hx hb dX8_nearestFree_36 ?_
        refine lv_aload_n hx hb dX8_nearestFree_37 rfl (lv_at hl 0 rfl) ?_
        refine lv_iload_n hx hb dX8_nearestFree_38 rfl (lv_at hl 1 rfl) ?_
        refine lv_iconst (v := (0 : Int32)) hx hb dX8_nearestFree_39 (by decide) ?_
        obtain ⟨v6, hv6, hF⟩ := oB hF
        refine call_i (wr := []) (wn := [(aM, .inr (6, [.ref aMn, .ref aMt, .ref aMk, .int mU, .ref aMs, .int mB, .ref aMl, .int mI, .ref aMx, .int mH, .int mQ, .int mW, .ref aMd, .int mF, .int mR, .int mD, .int mJ, .int mA, .int mT_28])), (aMn, .inl (K 6, 55, .inl nN))]) (va_runV (As := [.int y28_1, .int (0 : Int32)]) (rest := [.int ((2 : Int32) * y28_3)]) ⟨hx, hb, hml, hown, hts⟩ (c_X8_of l D K aM aMn aMt aMk aMs aMl aMx aMd mU mB mI mH mQ mW mF mR mD mJ mA mT_28 nN y28_1 (0 : Int32) v6 hv6 H.size) (cwV 2 hts gX8_nearestFree_X8_of rfl rfl rfl (by decide +kernel) ⟨(Nat.le_of_ble_eq_true rfl), (Nat.le_of_ble_eq_true rfl)⟩) (prV hE hK hP hD hS hA [0, 1] rfl rfl 6 0 rfl rfl rfl) rfl rfl hl.1 rfl (lv_room (Nat.le_of_ble_eq_true rfl)) dX8_nearestFree_40 ⟨(Nat.le_of_ble_eq_true rfl), (Nat.le_of_ble_eq_true rfl)⟩) hP hD hS hA [0, 1] [] [0, 1] rfl rfl rfl (by decide) rfl rfl (fun H locs hP hD hS => ?_)
        refine lv_icmp_gt (tgt := 94) hx hb dX8_nearestFree_43 (by decide) (fun c7 => ?_) (fun c7 => ?_)
        · have hF := oT c7 hF
          refine lv_aload_n hx hb dX8_nearestFree_94 rfl (lv_at hl 0 rfl) ?_
          refine lv_iconst (v := (2 : Int32)) hx hb dX8_nearestFree_95 (by decide) ?_
          obtain ⟨v8, hv8, hF⟩ := oB hF
          refine call_i (wr := [(aMn, .inl (K 6, 55, .inl nN))]) (wn := [(aM, .inr (6, [.ref aMn, .ref aMt, .ref aMk, .int mU, .ref aMs, .int mB, .ref aMl, .int mI, .ref aMx, .int mH, .int mQ, .int mW, .ref aMd, .int mF, .int mR, .int mD, .int mJ, .int mA, .int v8.2])), (aMn, .inl (K 6, 55, .inl nN))]) (va_runV (As := [.int (2 : Int32)]) (rest := []) ⟨hx, hb, hml, hown, hts⟩ (c_X8_raises l D K aM aMn aMt aMk aMs aMl aMx aMd mU mB mI mH mQ mW mF mR mD mJ mA mT_28 (2 : Int32) v8 hv8 H.size) (cwV 1 hts gX8_nearestFree_X8_raises rfl rfl rfl (by decide +kernel) ⟨(Nat.le_of_ble_eq_true rfl), (Nat.le_of_ble_eq_true rfl)⟩) (prV hE hK hP hD hS hA [0] rfl rfl 6 0 rfl rfl rfl) rfl rfl hl.1 rfl (lv_room (Nat.le_of_ble_eq_true rfl)) dX8_nearestFree_96 ⟨(Nat.le_of_ble_eq_true rfl), (Nat.le_of_ble_eq_true rfl)⟩) hP hD hS hA [0] [1] [1, 0] rfl rfl rfl (by decide) rfl rfl (fun H locs hP hD hS => ?_)
          exact fin_i (u := (v8.1, v8.2)) hF hx hb hr hlocks hK hP hD hS (Nat.le_of_ble_eq_true rfl) (Nat.le_of_ble_eq_true rfl) dX8_nearestFree_99
        · have hF := oF c7 hF
          refine lv_iload_n hx hb dX8_nearestFree_46 rfl (lv_at hl 2 rfl) ?_
          refine lv_iload_n hx hb dX8_nearestFree_47 rfl (lv_at hl 3 rfl) ?_
          refine lv_isub hx hb dX8_nearestFree_48 ?_
          refine lv_if_lt (tgt := 66) hx hb dX8_nearestFree_49 (by decide) (fun c9 => ?_) (fun c9 => ?_)
          · have hF := oT c9 hF
            refine lv_iload_n hx hb dX8_nearestFree_66 rfl (lv_at hl 2 rfl) ?_
            refine lv_iload_n hx hb dX8_nearestFree_67 rfl (lv_at hl 3 rfl) ?_
            refine lv_iadd hx hb dX8_nearestFree_68 ?_
            refine lv_bipush (v := (10 : Int32)) hx hb dX8_nearestFree_69 (by decide) ?_
            refine lv_icmp_ge (tgt := 88) hx hb dX8_nearestFree_71 (by decide) (fun c10 => ?_) (fun c10 => ?_)
            · have hF := oT c10 hF
              refine lv_iinc (v := y28_3 + (1 : Int32)) (lv' := [(3, .int (y28_3 + (1 : Int32))), (0, .ref aM), (1, .int y28_1), (2, .int y28_2)]) hx hb dX8_nearestFree_88 hl (k := 3) rfl (by first | rfl | decide) (by decide) rfl (fun ls hl => ?_)
              refine lv_goto (tgt := 28) hx hb dX8_nearestFree_91 (by decide) ?_
              exact ih (y28_3 + (1 : Int32)) hF _ _ hP hD hS _ (lv_sub hl [1, 2, 3, 0] rfl)
            · have hF := oF c10 hF
              refine lv_aload_n hx hb dX8_nearestFree_74 rfl (lv_at hl 0 rfl) ?_
              refine lv_iload_n hx hb dX8_nearestFree_75 rfl (lv_at hl 2 rfl) ?_
              refine lv_iload_n hx hb dX8_nearestFree_76 rfl (lv_at hl 3 rfl) ?_
              refine lv_iadd hx hb dX8_nearestFree_77 ?_
              obtain ⟨v11, hv11, hF⟩ := oB hF
              refine call_i (wr := []) (wn := [(aM, .inr (6, [.ref aMn, .ref aMt, .ref aMk, .int mU, .ref aMs, .int mB, .ref aMl, .int mI, .ref aMx, .int mH, .int mQ, .int mW, .ref aMd, .int mF, .int mR, .int mD, .int mJ, .int mA, .int mT_28])), (aMn, .inl (K 6, 55, .inl nN))]) (va_runV (As := [.int (y28_2 + y28_3)]) (rest := []) ⟨hx, hb, hml, hown, hts⟩ (c_X8_ownerOf l D K aM aMn aMt aMk aMs aMl aMx aMd mU mB mI mH mQ mW mF mR mD mJ mA mT_28 nN (y28_2 + y28_3) v11 hv11 H.size) (cwV 1 hts gX8_nearestFree_X8_ownerOf rfl rfl rfl (by decide +kernel) ⟨(Nat.le_of_ble_eq_true rfl), (Nat.le_of_ble_eq_true rfl)⟩) (prV hE hK hP hD hS hA [0, 1] rfl rfl 6 0 rfl rfl rfl) rfl rfl hl.1 rfl (lv_room (Nat.le_of_ble_eq_true rfl)) dX8_nearestFree_78 ⟨(Nat.le_of_ble_eq_true rfl), (Nat.le_of_ble_eq_true rfl)⟩) hP hD hS hA [0, 1] [] [0, 1] rfl rfl rfl (by decide) rfl rfl (fun H locs hP hD hS => ?_)
              refine lv_if_ge (tgt := 88) hx hb dX8_nearestFree_81 (by decide) (fun c12 => ?_) (fun c12 => ?_)
              · have hF := oT c12 hF
                refine lv_iinc (v := y28_3 + (1 : Int32)) (lv' := [(3, .int (y28_3 + (1 : Int32))), (0, .ref aM), (1, .int y28_1), (2, .int y28_2)]) hx hb dX8_nearestFree_88 hl (k := 3) rfl (by first | rfl | decide) (by decide) rfl (fun ls hl => ?_)
                refine lv_goto (tgt := 28) hx hb dX8_nearestFree_91 (by decide) ?_
                exact ih (y28_3 + (1 : Int32)) hF _ _ hP hD hS _ (lv_sub hl [1, 2, 3, 0] rfl)
              · have hF := oF c12 hF
                refine lv_iload_n hx hb dX8_nearestFree_84 rfl (lv_at hl 2 rfl) ?_
                refine lv_iload_n hx hb dX8_nearestFree_85 rfl (lv_at hl 3 rfl) ?_
                refine lv_iadd hx hb dX8_nearestFree_86 ?_
                exact fin_i (u := (y28_2 + y28_3, mT_28)) hF hx hb hr hlocks hK hP hD hS (Nat.le_of_ble_eq_true rfl) (Nat.le_of_ble_eq_true rfl) dX8_nearestFree_87
          · have hF := oF c9 hF
            refine lv_aload_n hx hb dX8_nearestFree_52 rfl (lv_at hl 0 rfl) ?_
            refine lv_iload_n hx hb dX8_nearestFree_53 rfl (lv_at hl 2 rfl) ?_
            refine lv_iload_n hx hb dX8_nearestFree_54 rfl (lv_at hl 3 rfl) ?_
            refine lv_isub hx hb dX8_nearestFree_55 ?_
            obtain ⟨v13, hv13, hF⟩ := oB hF
            refine call_i (wr := []) (wn := [(aM, .inr (6, [.ref aMn, .ref aMt, .ref aMk, .int mU, .ref aMs, .int mB, .ref aMl, .int mI, .ref aMx, .int mH, .int mQ, .int mW, .ref aMd, .int mF, .int mR, .int mD, .int mJ, .int mA, .int mT_28])), (aMn, .inl (K 6, 55, .inl nN))]) (va_runV (As := [.int (y28_2 - y28_3)]) (rest := []) ⟨hx, hb, hml, hown, hts⟩ (c_X8_ownerOf l D K aM aMn aMt aMk aMs aMl aMx aMd mU mB mI mH mQ mW mF mR mD mJ mA mT_28 nN (y28_2 - y28_3) v13 hv13 H.size) (cwV 1 hts gX8_nearestFree_X8_ownerOf rfl rfl rfl (by decide +kernel) ⟨(Nat.le_of_ble_eq_true rfl), (Nat.le_of_ble_eq_true rfl)⟩) (prV hE hK hP hD hS hA [0, 1] rfl rfl 6 0 rfl rfl rfl) rfl rfl hl.1 rfl (lv_room (Nat.le_of_ble_eq_true rfl)) dX8_nearestFree_56 ⟨(Nat.le_of_ble_eq_true rfl), (Nat.le_of_ble_eq_true rfl)⟩) hP hD hS hA [0, 1] [] [0, 1] rfl rfl rfl (by decide) rfl rfl (fun H locs hP hD hS => ?_)
            refine lv_if_ge (tgt := 66) hx hb dX8_nearestFree_59 (by decide) (fun c14 => ?_) (fun c14 => ?_)
            · have hF := oT c14 hF
              refine lv_iload_n hx hb dX8_nearestFree_66 rfl (lv_at hl 2 rfl) ?_
              refine lv_iload_n hx hb dX8_nearestFree_67 rfl (lv_at hl 3 rfl) ?_
              refine lv_iadd hx hb dX8_nearestFree_68 ?_
              refine lv_bipush (v := (10 : Int32)) hx hb dX8_nearestFree_69 (by decide) ?_
              refine lv_icmp_ge (tgt := 88) hx hb dX8_nearestFree_71 (by decide) (fun c15 => ?_) (fun c15 => ?_)
              · have hF := oT c15 hF
                refine lv_iinc (v := y28_3 + (1 : Int32)) (lv' := [(3, .int (y28_3 + (1 : Int32))), (0, .ref aM), (1, .int y28_1), (2, .int y28_2)]) hx hb dX8_nearestFree_88 hl (k := 3) rfl (by first | rfl | decide) (by decide) rfl (fun ls hl => ?_)
                refine lv_goto (tgt := 28) hx hb dX8_nearestFree_91 (by decide) ?_
                exact ih (y28_3 + (1 : Int32)) hF _ _ hP hD hS _ (lv_sub hl [1, 2, 3, 0] rfl)
              · have hF := oF c15 hF
                refine lv_aload_n hx hb dX8_nearestFree_74 rfl (lv_at hl 0 rfl) ?_
                refine lv_iload_n hx hb dX8_nearestFree_75 rfl (lv_at hl 2 rfl) ?_
                refine lv_iload_n hx hb dX8_nearestFree_76 rfl (lv_at hl 3 rfl) ?_
                refine lv_iadd hx hb dX8_nearestFree_77 ?_
                obtain ⟨v16, hv16, hF⟩ := oB hF
                refine call_i (wr := []) (wn := [(aM, .inr (6, [.ref aMn, .ref aMt, .ref aMk, .int mU, .ref aMs, .int mB, .ref aMl, .int mI, .ref aMx, .int mH, .int mQ, .int mW, .ref aMd, .int mF, .int mR, .int mD, .int mJ, .int mA, .int mT_28])), (aMn, .inl (K 6, 55, .inl nN))]) (va_runV (As := [.int (y28_2 + y28_3)]) (rest := []) ⟨hx, hb, hml, hown, hts⟩ (c_X8_ownerOf l D K aM aMn aMt aMk aMs aMl aMx aMd mU mB mI mH mQ mW mF mR mD mJ mA mT_28 nN (y28_2 + y28_3) v16 hv16 H.size) (cwV 1 hts gX8_nearestFree_X8_ownerOf rfl rfl rfl (by decide +kernel) ⟨(Nat.le_of_ble_eq_true rfl), (Nat.le_of_ble_eq_true rfl)⟩) (prV hE hK hP hD hS hA [0, 1] rfl rfl 6 0 rfl rfl rfl) rfl rfl hl.1 rfl (lv_room (Nat.le_of_ble_eq_true rfl)) dX8_nearestFree_78 ⟨(Nat.le_of_ble_eq_true rfl), (Nat.le_of_ble_eq_true rfl)⟩) hP hD hS hA [0, 1] [] [0, 1] rfl rfl rfl (by decide) rfl rfl (fun H locs hP hD hS => ?_)
                refine lv_if_ge (tgt := 88) hx hb dX8_nearestFree_81 (by decide) (fun c17 => ?_) (fun c17 => ?_)
                · have hF := oT c17 hF
                  refine lv_iinc (v := y28_3 + (1 : Int32)) (lv' := [(3, .int (y28_3 + (1 : Int32))), (0, .ref aM), (1, .int y28_1), (2, .int y28_2)]) hx hb dX8_nearestFree_88 hl (k := 3) rfl (by first | rfl | decide) (by decide) rfl (fun ls hl => ?_)
                  refine lv_goto (tgt := 28) hx hb dX8_nearestFree_91 (by decide) ?_
                  exact ih (y28_3 + (1 : Int32)) hF _ _ hP hD hS _ (lv_sub hl [1, 2, 3, 0] rfl)
                · have hF := oF c17 hF
                  refine lv_iload_n hx hb dX8_nearestFree_84 rfl (lv_at hl 2 rfl) ?_
                  refine lv_iload_n hx hb dX8_nearestFree_85 rfl (lv_at hl 3 rfl) ?_
                  refine lv_iadd hx hb dX8_nearestFree_86 ?_
                  exact fin_i (u := (y28_2 + y28_3, mT_28)) hF hx hb hr hlocks hK hP hD hS (Nat.le_of_ble_eq_true rfl) (Nat.le_of_ble_eq_true rfl) dX8_nearestFree_87
            · have hF := oF c14 hF
              refine lv_iload_n hx hb dX8_nearestFree_62 rfl (lv_at hl 2 rfl) ?_
              refine lv_iload_n hx hb dX8_nearestFree_63 rfl (lv_at hl 3 rfl) ?_
              refine lv_isub hx hb dX8_nearestFree_64 ?_
              exact fin_i (u := (y28_2 - y28_3, mT_28)) hF hx hb hr hlocks hK hP hD hS (Nat.le_of_ble_eq_true rfl) (Nat.le_of_ble_eq_true rfl) dX8_nearestFree_65
  rw [f_X8_nearestFree] at hF
  refine lv_aload_n hx hb dX8_nearestFree_0 rfl (lv_at hl 0 rfl) ?_
  refine lv_iconst (v := (0 : Int32)) hx hb dX8_nearestFree_1 (by decide) ?_
  refine va_put (D := D) (ci := 6) (v := .int (0 : Int32)) (ty := .int) (C := RX8) (T := TX8) (N := 19) hx hb hts (fun _ h => List.mem_cons_of_mem _ (List.mem_append_left _ (List.mem_append_right _ h))) tyX8 tyX8_ok nmX8 hown hK hP hD hS 0 rfl rfl 18 (by decide) (hts (.fieldLink RX8 36 "BarometerClubModel" "thrown" "I") (List.mem_of_getElem? (i := 1) rfl)) (fun _ h9 => h9) rfl (by decide +kernel) rfl rfl (Nat.le_of_ble_eq_true rfl) dX8_nearestFree_2 (fun H locs hP hD hS => ?_)
  have hP : va_P D vwC7 [(aM, .inr (6, [.ref aMn, .ref aMt, .ref aMk, .int mU, .ref aMs, .int mB, .ref aMl, .int mI, .ref aMx, .int mH, .int mQ, .int mW, .ref aMd, .int mF, .int mR, .int mD, .int mJ, .int mA, .int (0 : Int32)])), (aMn, .inl (K 6, 55, .inl nN))] H := hP
  have hD : va_D A [(aM, .inr (6, [.ref aMn, .ref aMt, .ref aMk, .int mU, .ref aMs, .int mB, .ref aMl, .int mI, .ref aMx, .int mH, .int mQ, .int mW, .ref aMd, .int mF, .int mR, .int mD, .int mJ, .int mA, .int (0 : Int32)])), (aMn, .inl (K 6, 55, .inl nN))] := hD
  refine lv_aload_n hx hb dX8_nearestFree_5 rfl (lv_at hl 0 rfl) ?_
  refine lv_iload_n hx hb dX8_nearestFree_6 rfl (lv_at hl 1 rfl) ?_
  obtain ⟨v1, hv1, hF⟩ := oB hF
  refine call_i (wr := []) (wn := [(aM, .inr (6, [.ref aMn, .ref aMt, .ref aMk, .int mU, .ref aMs, .int mB, .ref aMl, .int mI, .ref aMx, .int mH, .int mQ, .int mW, .ref aMd, .int mF, .int mR, .int mD, .int mJ, .int mA, .int (0 : Int32)])), (aMn, .inl (K 6, 55, .inl nN))]) (va_runV (As := [.int p1]) (rest := []) ⟨hx, hb, hml, hown, hts⟩ (c_X8_isMember l D K aM aMn aMt aMk aMs aMl aMx aMd mU mB mI mH mQ mW mF mR mD mJ mA (0 : Int32) nN p1 v1 hv1 H.size) (cwV 1 hts gX8_nearestFree_X8_isMember rfl rfl rfl (by decide +kernel) ⟨(Nat.le_of_ble_eq_true rfl), (Nat.le_of_ble_eq_true rfl)⟩) (prV hE hK hP hD hS hA [0, 1] rfl rfl 6 0 rfl rfl rfl) rfl rfl hl.1 rfl (lv_room (Nat.le_of_ble_eq_true rfl)) dX8_nearestFree_7 ⟨(Nat.le_of_ble_eq_true rfl), (Nat.le_of_ble_eq_true rfl)⟩) hP hD hS hA [0, 1] [] [0, 1] rfl rfl rfl (by decide) rfl rfl (fun H locs hP hD hS => ?_)
  refine lv_if_ne (tgt := 19) hx hb dX8_nearestFree_10 (by decide) (fun c2 => ?_) (fun c2 => ?_)
  · have hF := oF c2 hF
    refine lv_aload_n hx hb dX8_nearestFree_19 rfl (lv_at hl 0 rfl) ?_
    refine lv_iload_n hx hb dX8_nearestFree_20 rfl (lv_at hl 1 rfl) ?_
    refine lv_iconst (v := (1 : Int32)) hx hb dX8_nearestFree_21 (by decide) ?_
    obtain ⟨v3, hv3, hF⟩ := oB hF
    refine call_i (wr := []) (wn := [(aM, .inr (6, [.ref aMn, .ref aMt, .ref aMk, .int mU, .ref aMs, .int mB, .ref aMl, .int mI, .ref aMx, .int mH, .int mQ, .int mW, .ref aMd, .int mF, .int mR, .int mD, .int mJ, .int mA, .int (0 : Int32)])), (aMn, .inl (K 6, 55, .inl nN))]) (va_runV (As := [.int p1, .int (1 : Int32)]) (rest := []) ⟨hx, hb, hml, hown, hts⟩ (c_X8_of l D K aM aMn aMt aMk aMs aMl aMx aMd mU mB mI mH mQ mW mF mR mD mJ mA (0 : Int32) nN p1 (1 : Int32) v3 hv3 H.size) (cwV 2 hts gX8_nearestFree_X8_of rfl rfl rfl (by decide +kernel) ⟨(Nat.le_of_ble_eq_true rfl), (Nat.le_of_ble_eq_true rfl)⟩) (prV hE hK hP hD hS hA [0, 1] rfl rfl 6 0 rfl rfl rfl) rfl rfl hl.1 rfl (lv_room (Nat.le_of_ble_eq_true rfl)) dX8_nearestFree_22 ⟨(Nat.le_of_ble_eq_true rfl), (Nat.le_of_ble_eq_true rfl)⟩) hP hD hS hA [0, 1] [] [0, 1] rfl rfl rfl (by decide) rfl rfl (fun H locs hP hD hS => ?_)
    refine lv_istore_n (lv' := [(2, .int v3.1), (0, .ref aM), (1, .int p1)]) hx hb dX8_nearestFree_25 rfl hl (by decide) rfl (fun ls hl => ?_)
    refine lv_iconst (v := (1 : Int32)) hx hb dX8_nearestFree_26 (by decide) ?_
    refine lv_istore_n (lv' := [(3, .int (1 : Int32)), (2, .int v3.1), (0, .ref aM), (1, .int p1)]) hx hb dX8_nearestFree_27 rfl hl (by decide) rfl (fun ls hl => ?_)
    exact loop_28 p1 v3.1 (0 : Int32) FU (1 : Int32) hF _ _ hP hD hS _ (lv_sub hl [2, 3, 1, 0] rfl)
  · have hF := oT c2 hF
    refine lv_aload_n hx hb dX8_nearestFree_13 rfl (lv_at hl 0 rfl) ?_
    refine lv_iconst (v := (1 : Int32)) hx hb dX8_nearestFree_14 (by decide) ?_
    obtain ⟨v18, hv18, hF⟩ := oB hF
    refine call_i (wr := [(aMn, .inl (K 6, 55, .inl nN))]) (wn := [(aM, .inr (6, [.ref aMn, .ref aMt, .ref aMk, .int mU, .ref aMs, .int mB, .ref aMl, .int mI, .ref aMx, .int mH, .int mQ, .int mW, .ref aMd, .int mF, .int mR, .int mD, .int mJ, .int mA, .int v18.2])), (aMn, .inl (K 6, 55, .inl nN))]) (va_runV (As := [.int (1 : Int32)]) (rest := []) ⟨hx, hb, hml, hown, hts⟩ (c_X8_raises l D K aM aMn aMt aMk aMs aMl aMx aMd mU mB mI mH mQ mW mF mR mD mJ mA (0 : Int32) (1 : Int32) v18 hv18 H.size) (cwV 1 hts gX8_nearestFree_X8_raises rfl rfl rfl (by decide +kernel) ⟨(Nat.le_of_ble_eq_true rfl), (Nat.le_of_ble_eq_true rfl)⟩) (prV hE hK hP hD hS hA [0] rfl rfl 6 0 rfl rfl rfl) rfl rfl hl.1 rfl (lv_room (Nat.le_of_ble_eq_true rfl)) dX8_nearestFree_15 ⟨(Nat.le_of_ble_eq_true rfl), (Nat.le_of_ble_eq_true rfl)⟩) hP hD hS hA [0] [1] [1, 0] rfl rfl rfl (by decide) rfl rfl (fun H locs hP hD hS => ?_)
    exact fin_i (u := (v18.1, v18.2)) hF hx hb hr hlocks hK hP hD hS (Nat.le_of_ble_eq_true rfl) (Nat.le_of_ble_eq_true rfl) dX8_nearestFree_18
abbrev RM_X8_measure : Room := { frames := 2, cells := 0, slots := 0, locals := 44 }
abbrev MC_X8_measure : Nat := 0
abbrev MS_X8_measure : Nat := 0
abbrev wf_X8_measure (K : Nat → ClassId) (aM : Nat) (aMn : Nat) (aMt : Nat) (aMk : Nat) (aMs : Nat) (aMl : Nat) (aMx : Nat) (aMd : Nat) (mU : Int32) (mB : Int32) (mI : Int32) (mH : Int32) (mQ : Int32) (mW : Int32) (mF : Int32) (mR : Int32) (mD : Int32) (mJ : Int32) (mA : Int32) (mT : Int32) (nN : Nat → Int32) (v : Int32 × Unit) : va_W := [(aM, .inr (6, [.ref aMn, .ref aMt, .ref aMk, .int mU, .ref aMs, .int mB, .ref aMl, .int mI, .ref aMx, .int mH, .int mQ, .int mW, .ref aMd, .int mF, .int mR, .int mD, .int mJ, .int mA, .int mT])), (aMn, .inl (K 6, 55, .inl nN))]
set_option maxHeartbeats 4000000 in
set_option maxRecDepth 100000 in
theorem c_X8_measure (l : Launch) (D : va_G) (K : Nat → ClassId) (aM : Nat) (aMn : Nat) (aMt : Nat) (aMk : Nat) (aMs : Nat) (aMl : Nat) (aMx : Nat) (aMd : Nat) (mU : Int32) (mB : Int32) (mI : Int32) (mH : Int32) (mQ : Int32) (mW : Int32) (mF : Int32) (mR : Int32) (mD : Int32) (mJ : Int32) (mA : Int32) (mT : Int32) (nN : Nat → Int32) (p1 : Int32) (p2 : Int32) (v : Int32 × Unit) (hF : f_X8_measure nN p1 p2 = some v) (sz : Nat) :
    (Met l yX8_measure wsX8_measure RM_X8_measure (PC D (TY K) [(aM, .inr (6, [.ref aMn, .ref aMt, .ref aMk, .int mU, .ref aMs, .int mB, .ref aMl, .int mI, .ref aMx, .int mH, .int mQ, .int mW, .ref aMd, .int mF, .int mR, .int mD, .int mJ, .int mA, .int mT])), (aMn, .inl (K 6, 55, .inl nN))] [.ref aM, .int p1, .int p2] sz) (QI D (TY K) (wf_X8_measure K aM aMn aMt aMk aMs aMl aMx aMd mU mB mI mH mQ mW mF mR mD mJ mA mT nN) v (va_A [(aM, .inr (6, [.ref aMn, .ref aMt, .ref aMk, .int mU, .ref aMs, .int mB, .ref aMl, .int mI, .ref aMx, .int mH, .int mQ, .int mW, .ref aMd, .int mF, .int mR, .int mD, .int mJ, .int mA, .int mT])), (aMn, .inl (K 6, 55, .inl nN))] sz)) MC_X8_measure MS_X8_measure (va_A [(aM, .inr (6, [.ref aMn, .ref aMt, .ref aMk, .int mU, .ref aMs, .int mB, .ref aMl, .int mI, .ref aMx, .int mH, .int mQ, .int mW, .ref aMd, .int mF, .int mR, .int mD, .int mJ, .int mA, .int mT])), (aMn, .inl (K 6, 55, .inl nN))] sz)) := by
  refine pro (Qf := fun A => QI D (TY K) (wf_X8_measure K aM aMn aMt aMk aMs aMl aMx aMd mU mB mI mH mQ mW mF mR mD mJ mA mT nN) v A) (cc := cX8_measure) (maxL := 3) (ret := (some .int)) (by decide +kernel) rfl (Nat.le_of_ble_eq_true rfl) ?_
  intro p e s m args below meth c hx hb hr hts hown hlocks hml hini hK A hA hE hP hD hS ls hl
  have hown : s.vm.findClass RX8 = some m.cls := hown
  have hl : lv_has ls 3 [(0, .ref aM), (1, .int p1), (2, .int p2)] := hl
  rw [f_X8_measure] at hF
  refine lv_iload_n hx hb dX8_measure_0 rfl (lv_at hl 2 rfl) ?_
  refine lv_if_ne (tgt := 13) hx hb dX8_measure_1 (by decide) (fun c1 => ?_) (fun c1 => ?_)
  · have hF := oF c1 hF
    refine lv_iload_n hx hb dX8_measure_13 rfl (lv_at hl 2 rfl) ?_
    refine lv_iconst (v := (1 : Int32)) hx hb dX8_measure_14 (by decide) ?_
    refine lv_icmp_ne (tgt := 27) hx hb dX8_measure_15 (by decide) (fun c2 => ?_) (fun c2 => ?_)
    · have hF := oF c2 hF
      refine lv_iload_n hx hb dX8_measure_27 rfl (lv_at hl 2 rfl) ?_
      refine lv_iconst (v := (2 : Int32)) hx hb dX8_measure_28 (by decide) ?_
      refine lv_icmp_ne (tgt := 46) hx hb dX8_measure_29 (by decide) (fun c3 => ?_) (fun c3 => ?_)
      · have hF := oF c3 hF
        refine lv_aload_n hx hb dX8_measure_46 rfl (lv_at hl 0 rfl) ?_
        refine lv_iload_n hx hb dX8_measure_47 rfl (lv_at hl 1 rfl) ?_
        refine lv_bipush (v := (6 : Int32)) hx hb dX8_measure_48 (by decide) ?_
        obtain ⟨v4, hv4, hF⟩ := oB hF
        refine call_i (wr := []) (wn := [(aM, .inr (6, [.ref aMn, .ref aMt, .ref aMk, .int mU, .ref aMs, .int mB, .ref aMl, .int mI, .ref aMx, .int mH, .int mQ, .int mW, .ref aMd, .int mF, .int mR, .int mD, .int mJ, .int mA, .int mT])), (aMn, .inl (K 6, 55, .inl nN))]) (va_runV (As := [.int p1, .int (6 : Int32)]) (rest := []) ⟨hx, hb, hml, hown, hts⟩ (c_X8_of l D K aM aMn aMt aMk aMs aMl aMx aMd mU mB mI mH mQ mW mF mR mD mJ mA mT nN p1 (6 : Int32) v4 hv4 s.heap.size) (cwV 2 hts gX8_measure_X8_of rfl rfl rfl (by decide +kernel) ⟨(Nat.le_of_ble_eq_true rfl), (Nat.le_of_ble_eq_true rfl)⟩) (prV hE hK hP hD hS hA [0, 1] rfl rfl 6 0 rfl rfl rfl) rfl rfl hl.1 rfl (lv_room (Nat.le_of_ble_eq_true rfl)) dX8_measure_50 ⟨(Nat.le_of_ble_eq_true rfl), (Nat.le_of_ble_eq_true rfl)⟩) hP hD hS hA [0, 1] [] [0, 1] rfl rfl rfl (by decide) rfl rfl (fun H locs hP hD hS => ?_)
        exact fin_i (u := (v4.1, ())) hF hx hb hr hlocks hK hP hD hS (Nat.le_of_ble_eq_true rfl) (Nat.le_of_ble_eq_true rfl) dX8_measure_53
      · have hF := oT c3 hF
        refine lv_aload_n hx hb dX8_measure_32 rfl (lv_at hl 0 rfl) ?_
        refine lv_iload_n hx hb dX8_measure_33 rfl (lv_at hl 1 rfl) ?_
        refine lv_aload_n hx hb dX8_measure_34 rfl (lv_at hl 0 rfl) ?_
        refine va_get (D := D) (ci := 6) (v := .ref aMn) (C := RX8) (T := TX8) (N := 19) hx hb hts (fun _ h => List.mem_cons_of_mem _ (List.mem_append_left _ (List.mem_append_right _ h))) hown hK hP 0 rfl rfl 0 (by decide) (hts (.fieldLink RX8 9 "BarometerClubModel" "now" "[I") (List.mem_of_getElem? (i := 1) rfl)) (fun _ h9 => h9) rfl dX8_measure_35 ?_
        refine lv_iconst (v := (1 : Int32)) hx hb dX8_measure_38 (by decide) ?_
        refine va_iald hx hb hK hP 1 6 rfl rfl (inB_in (by decide : inB (1 : Int32) 55 = true)) dX8_measure_39 ?_
        obtain ⟨v5, hv5, hF⟩ := oB hF
        refine call_i (wr := []) (wn := [(aM, .inr (6, [.ref aMn, .ref aMt, .ref aMk, .int mU, .ref aMs, .int mB, .ref aMl, .int mI, .ref aMx, .int mH, .int mQ, .int mW, .ref aMd, .int mF, .int mR, .int mD, .int mJ, .int mA, .int mT])), (aMn, .inl (K 6, 55, .inl nN))]) (va_runV (As := [.int p1, .int (nN (1 : Int32).toNatClampNeg)]) (rest := []) ⟨hx, hb, hml, hown, hts⟩ (c_X8_needleAt l D K aM aMn aMt aMk aMs aMl aMx aMd mU mB mI mH mQ mW mF mR mD mJ mA mT nN p1 (nN (1 : Int32).toNatClampNeg) v5 hv5 s.heap.size) (cwV 2 hts gX8_measure_X8_needleAt rfl rfl rfl (by decide +kernel) ⟨(Nat.le_of_ble_eq_true rfl), (Nat.le_of_ble_eq_true rfl)⟩) (prV hE hK hP hD hS hA [0, 1] rfl rfl 6 0 rfl rfl rfl) rfl rfl hl.1 rfl (lv_room (Nat.le_of_ble_eq_true rfl)) dX8_measure_40 ⟨(Nat.le_of_ble_eq_true rfl), (Nat.le_of_ble_eq_true rfl)⟩) hP hD hS hA [0, 1] [] [0, 1] rfl rfl rfl (by decide) rfl rfl (fun H locs hP hD hS => ?_)
        refine lv_goto (tgt := 53) hx hb dX8_measure_43 (by decide) ?_
        exact fin_i (u := (v5.1, ())) hF hx hb hr hlocks hK hP hD hS (Nat.le_of_ble_eq_true rfl) (Nat.le_of_ble_eq_true rfl) dX8_measure_53
    · have hF := oT c2 hF
      refine lv_aload_n hx hb dX8_measure_18 rfl (lv_at hl 0 rfl) ?_
      refine lv_iload_n hx hb dX8_measure_19 rfl (lv_at hl 1 rfl) ?_
      refine lv_iconst (v := (1 : Int32)) hx hb dX8_measure_20 (by decide) ?_
      obtain ⟨v6, hv6, hF⟩ := oB hF
      refine call_i (wr := []) (wn := [(aM, .inr (6, [.ref aMn, .ref aMt, .ref aMk, .int mU, .ref aMs, .int mB, .ref aMl, .int mI, .ref aMx, .int mH, .int mQ, .int mW, .ref aMd, .int mF, .int mR, .int mD, .int mJ, .int mA, .int mT])), (aMn, .inl (K 6, 55, .inl nN))]) (va_runV (As := [.int p1, .int (1 : Int32)]) (rest := []) ⟨hx, hb, hml, hown, hts⟩ (c_X8_of l D K aM aMn aMt aMk aMs aMl aMx aMd mU mB mI mH mQ mW mF mR mD mJ mA mT nN p1 (1 : Int32) v6 hv6 s.heap.size) (cwV 2 hts gX8_measure_X8_of rfl rfl rfl (by decide +kernel) ⟨(Nat.le_of_ble_eq_true rfl), (Nat.le_of_ble_eq_true rfl)⟩) (prV hE hK hP hD hS hA [0, 1] rfl rfl 6 0 rfl rfl rfl) rfl rfl hl.1 rfl (lv_room (Nat.le_of_ble_eq_true rfl)) dX8_measure_21 ⟨(Nat.le_of_ble_eq_true rfl), (Nat.le_of_ble_eq_true rfl)⟩) hP hD hS hA [0, 1] [] [0, 1] rfl rfl rfl (by decide) rfl rfl (fun H locs hP hD hS => ?_)
      refine lv_goto (tgt := 53) hx hb dX8_measure_24 (by decide) ?_
      exact fin_i (u := (v6.1, ())) hF hx hb hr hlocks hK hP hD hS (Nat.le_of_ble_eq_true rfl) (Nat.le_of_ble_eq_true rfl) dX8_measure_53
  · have hF := oT c1 hF
    refine lv_aload_n hx hb dX8_measure_4 rfl (lv_at hl 0 rfl) ?_
    refine lv_iload_n hx hb dX8_measure_5 rfl (lv_at hl 1 rfl) ?_
    refine lv_iconst (v := (0 : Int32)) hx hb dX8_measure_6 (by decide) ?_
    obtain ⟨v7, hv7, hF⟩ := oB hF
    refine call_i (wr := []) (wn := [(aM, .inr (6, [.ref aMn, .ref aMt, .ref aMk, .int mU, .ref aMs, .int mB, .ref aMl, .int mI, .ref aMx, .int mH, .int mQ, .int mW, .ref aMd, .int mF, .int mR, .int mD, .int mJ, .int mA, .int mT])), (aMn, .inl (K 6, 55, .inl nN))]) (va_runV (As := [.int p1, .int (0 : Int32)]) (rest := []) ⟨hx, hb, hml, hown, hts⟩ (c_X8_of l D K aM aMn aMt aMk aMs aMl aMx aMd mU mB mI mH mQ mW mF mR mD mJ mA mT nN p1 (0 : Int32) v7 hv7 s.heap.size) (cwV 2 hts gX8_measure_X8_of rfl rfl rfl (by decide +kernel) ⟨(Nat.le_of_ble_eq_true rfl), (Nat.le_of_ble_eq_true rfl)⟩) (prV hE hK hP hD hS hA [0, 1] rfl rfl 6 0 rfl rfl rfl) rfl rfl hl.1 rfl (lv_room (Nat.le_of_ble_eq_true rfl)) dX8_measure_7 ⟨(Nat.le_of_ble_eq_true rfl), (Nat.le_of_ble_eq_true rfl)⟩) hP hD hS hA [0, 1] [] [0, 1] rfl rfl rfl (by decide) rfl rfl (fun H locs hP hD hS => ?_)
    refine lv_goto (tgt := 53) hx hb dX8_measure_10 (by decide) ?_
    exact fin_i (u := (v7.1, ())) hF hx hb hr hlocks hK hP hD hS (Nat.le_of_ble_eq_true rfl) (Nat.le_of_ble_eq_true rfl) dX8_measure_53
abbrev RM_X8_ranked : Room := { frames := 3, cells := 0, slots := 0, locals := 66 }
abbrev MC_X8_ranked : Nat := 0
abbrev MS_X8_ranked : Nat := 0
abbrev wf_X8_ranked (K : Nat → ClassId) (aM : Nat) (aMn : Nat) (aMt : Nat) (aMk : Nat) (aMs : Nat) (aMl : Nat) (aMx : Nat) (aMd : Nat) (mU : Int32) (mB : Int32) (mI : Int32) (mH : Int32) (mQ : Int32) (mW : Int32) (mF : Int32) (mR : Int32) (mD : Int32) (mJ : Int32) (mA : Int32) (nN : Nat → Int32) (v : Int32 × Int32) : va_W := [(aM, .inr (6, [.ref aMn, .ref aMt, .ref aMk, .int mU, .ref aMs, .int mB, .ref aMl, .int mI, .ref aMx, .int mH, .int mQ, .int mW, .ref aMd, .int mF, .int mR, .int mD, .int mJ, .int mA, .int v.2])), (aMn, .inl (K 6, 55, .inl nN))]
set_option maxHeartbeats 4000000 in
set_option maxRecDepth 100000 in
theorem c_X8_ranked (l : Launch) (D : va_G) (K : Nat → ClassId) (aM : Nat) (aMn : Nat) (aMt : Nat) (aMk : Nat) (aMs : Nat) (aMl : Nat) (aMx : Nat) (aMd : Nat) (mU : Int32) (mB : Int32) (mI : Int32) (mH : Int32) (mQ : Int32) (mW : Int32) (mF : Int32) (mR : Int32) (mD : Int32) (mJ : Int32) (mA : Int32) (mT : Int32) (nN : Nat → Int32) (p1 : Int32) (p2 : Int32) (v : Int32 × Int32) (hF : f_X8_ranked mT nN p1 p2 = some v) (sz : Nat) :
    (Met l yX8_ranked wsX8_ranked RM_X8_ranked (PC D (TY K) [(aM, .inr (6, [.ref aMn, .ref aMt, .ref aMk, .int mU, .ref aMs, .int mB, .ref aMl, .int mI, .ref aMx, .int mH, .int mQ, .int mW, .ref aMd, .int mF, .int mR, .int mD, .int mJ, .int mA, .int mT])), (aMn, .inl (K 6, 55, .inl nN))] [.ref aM, .int p1, .int p2] sz) (QI D (TY K) (wf_X8_ranked K aM aMn aMt aMk aMs aMl aMx aMd mU mB mI mH mQ mW mF mR mD mJ mA nN) v (va_A [(aM, .inr (6, [.ref aMn, .ref aMt, .ref aMk, .int mU, .ref aMs, .int mB, .ref aMl, .int mI, .ref aMx, .int mH, .int mQ, .int mW, .ref aMd, .int mF, .int mR, .int mD, .int mJ, .int mA, .int mT])), (aMn, .inl (K 6, 55, .inl nN))] sz)) MC_X8_ranked MS_X8_ranked (va_A [(aM, .inr (6, [.ref aMn, .ref aMt, .ref aMk, .int mU, .ref aMs, .int mB, .ref aMl, .int mI, .ref aMx, .int mH, .int mQ, .int mW, .ref aMd, .int mF, .int mR, .int mD, .int mJ, .int mA, .int mT])), (aMn, .inl (K 6, 55, .inl nN))] sz)) := by
  refine pro (Qf := fun A => QI D (TY K) (wf_X8_ranked K aM aMn aMt aMk aMs aMl aMx aMd mU mB mI mH mQ mW mF mR mD mJ mA nN) v A) (cc := cX8_ranked) (maxL := 7) (ret := (some .int)) (by decide +kernel) rfl (Nat.le_of_ble_eq_true rfl) ?_
  intro p e s m args below meth c hx hb hr hts hown hlocks hml hini hK A hA hE hP hD hS ls hl
  have hown : s.vm.findClass RX8 = some m.cls := hown
  have hl : lv_has ls 7 [(0, .ref aM), (1, .int p1), (2, .int p2)] := hl
  have loop_38 : ∀ (y38_1 : Int32) (y38_2 : Int32) (y38_3 : Int32) (mT_38 : Int32) (u : Int32 × Int32) (n : Nat) (y38_4 : Int32) (y38_5 : Int32), f_X8_ranked_L38 nN y38_1 y38_3 n y38_4 y38_5 = some u → (∀ (H : Heap) (locs : List Loc), va_P D vwC7 [(aM, .inr (6, [.ref aMn, .ref aMt, .ref aMk, .int mU, .ref aMs, .int mB, .ref aMl, .int mI, .ref aMx, .int mH, .int mQ, .int mW, .ref aMd, .int mF, .int mR, .int mD, .int mJ, .int mA, .int mT_38])), (aMn, .inl (K 6, 55, .inl nN))] H → va_D A [(aM, .inr (6, [.ref aMn, .ref aMt, .ref aMk, .int mU, .ref aMs, .int mB, .ref aMl, .int mI, .ref aMx, .int mH, .int mQ, .int mW, .ref aMd, .int mF, .int mR, .int mD, .int mJ, .int mA, .int mT_38])), (aMn, .inl (K 6, 55, .inl nN))] → va_S A s.heap H locs → ∀ ls : Array Slot, lv_has ls 7 [(0, .ref aM), (1, .int y38_1), (2, .int y38_2), (3, .int y38_3), (4, .int u.1), (5, .int u.2)] → W p l e RM_X8_ranked s m args below meth c H locs 0 0 (MQ below (QI D (TY K) (wf_X8_ranked K aM aMn aMt aMk aMs aMl aMx aMd mU mB mI mH mQ mW mF mR mD mJ mA nN) v A) args s MC_X8_ranked MS_X8_ranked A) (F0 m 90 ls [])) → ∀ (H : Heap) (locs : List Loc), va_P D vwC7 [(aM, .inr (6, [.ref aMn, .ref aMt, .ref aMk, .int mU, .ref aMs, .int mB, .ref aMl, .int mI, .ref aMx, .int mH, .int mQ, .int mW, .ref aMd, .int mF, .int mR, .int mD, .int mJ, .int mA, .int mT_38])), (aMn, .inl (K 6, 55, .inl nN))] H → va_D A [(aM, .inr (6, [.ref aMn, .ref aMt, .ref aMk, .int mU, .ref aMs, .int mB, .ref aMl, .int mI, .ref aMx, .int mH, .int mQ, .int mW, .ref aMd, .int mF, .int mR, .int mD, .int mJ, .int mA, .int mT_38])), (aMn, .inl (K 6, 55, .inl nN))] → va_S A s.heap H locs → ∀ ls : Array Slot, lv_has ls 7 [(0, .ref aM), (1, .int y38_1), (2, .int y38_2), (3, .int y38_3), (4, .int y38_4), (5, .int y38_5)] → W p l e RM_X8_ranked s m args below meth c H locs 0 0 (MQ below (QI D (TY K) (wf_X8_ranked K aM aMn aMt aMk aMs aMl aMx aMd mU mB mI mH mQ mW mF mR mD mJ mA nN) v A) args s MC_X8_ranked MS_X8_ranked A) (F0 m 38 ls []) := by
    intro y38_1 y38_2 y38_3 mT_38 u n
    induction n with
    | zero =>
      intro y38_4 y38_5 hF
      exact nomatch hF
    | succ n ih =>
      intro y38_4 y38_5 hF kx H locs hP hD hS ls hl
      rw [f_X8_ranked_L38.eq_2] at hF
      refine lv_iload hx hb dX8_ranked_38 (lv_at hl 5 rfl) ?_
      refine lv_aload_n hx hb dX8_ranked_40 rfl (lv_at hl 0 rfl) ?_
      refine va_get (D := D) (ci := 6) (v := .ref aMn) (C := RX8) (T := TX8) (N := 19) hx hb hts (fun _ h => List.mem_cons_of_mem _ (List.mem_append_left _ (List.mem_append_right _ h))) hown hK hP 0 rfl rfl 0 (by decide) (hts (.fieldLink RX8 9 "BarometerClubModel" "now" "[I") (List.mem_of_getElem? (i := 2) rfl)) (fun _ h9 => h9) rfl dX8_ranked_41 ?_
      refine lv_iconst (v := (0 : Int32)) hx hb dX8_ranked_44 (by decide) ?_
      refine va_iald hx hb hK hP 1 6 rfl rfl (inB_in (by decide : inB (0 : Int32) 55 = true)) dX8_ranked_45 ?_
      refine lv_icmp_ge (tgt := 90) hx hb dX8_ranked_46 (by decide) (fun c5 => ?_) (fun c5 => ?_)
      · have hF := oT c5 hF
        cases hF
        exact kx _ _ hP hD hS _ (lv_sub hl [0, 1, 2, 3, 4, 5] rfl)
      · have hF := oF c5 hF
        refine lv_aload_n hx hb dX8_ranked_49 rfl (lv_at hl 0 rfl) ?_
        refine lv_iload hx hb dX8_ranked_50 (lv_at hl 5 rfl) ?_
        refine lv_iload_n hx hb dX8_ranked_52 rfl (lv_at hl 1 rfl) ?_
        obtain ⟨v6, hv6, hF⟩ := oB hF
        refine call_i (wr := []) (wn := [(aM, .inr (6, [.ref aMn, .ref aMt, .ref aMk, .int mU, .ref aMs, .int mB, .ref aMl, .int mI, .ref aMx, .int mH, .int mQ, .int mW, .ref aMd, .int mF, .int mR, .int mD, .int mJ, .int mA, .int mT_38])), (aMn, .inl (K 6, 55, .inl nN))]) (va_runV (As := [.int y38_5, .int y38_1]) (rest := []) ⟨hx, hb, hml, hown, hts⟩ (c_X8_measure l D K aM aMn aMt aMk aMs aMl aMx aMd mU mB mI mH mQ mW mF mR mD mJ mA mT_38 nN y38_5 y38_1 v6 hv6 H.size) (cwV 2 hts gX8_ranked_X8_measure rfl rfl rfl (by decide +kernel) ⟨(Nat.le_of_ble_eq_true rfl), (Nat.le_of_ble_eq_true rfl)⟩) (prV hE hK hP hD hS hA [0, 1] rfl rfl 6 0 rfl rfl rfl) rfl rfl hl.1 rfl (lv_room (Nat.le_of_ble_eq_true rfl)) dX8_ranked_53 ⟨(Nat.le_of_ble_eq_true rfl), (Nat.le_of_ble_eq_true rfl)⟩) hP hD hS hA [0, 1] [] [0, 1] rfl rfl rfl (by decide) rfl rfl (fun H locs hP hD hS => ?_)
        refine lv_aload_n hx hb dX8_ranked_56 rfl (lv_at hl 0 rfl) ?_
        refine lv_iload_n hx hb dX8_ranked_57 rfl (lv_at hl 3 rfl) ?_
        refine lv_iload_n hx hb dX8_ranked_58 rfl (lv_at hl 1 rfl) ?_
        obtain ⟨v7, hv7, hF⟩ := oB hF
        refine call_i (wr := []) (wn := [(aM, .inr (6, [.ref aMn, .ref aMt, .ref aMk, .int mU, .ref aMs, .int mB, .ref aMl, .int mI, .ref aMx, .int mH, .int mQ, .int mW, .ref aMd, .int mF, .int mR, .int mD, .int mJ, .int mA, .int mT_38])), (aMn, .inl (K 6, 55, .inl nN))]) (va_runV (As := [.int y38_3, .int y38_1]) (rest := [.int v6.1]) ⟨hx, hb, hml, hown, hts⟩ (c_X8_measure l D K aM aMn aMt aMk aMs aMl aMx aMd mU mB mI mH mQ mW mF mR mD mJ mA mT_38 nN y38_3 y38_1 v7 hv7 H.size) (cwV 2 hts gX8_ranked_X8_measure rfl rfl rfl (by decide +kernel) ⟨(Nat.le_of_ble_eq_true rfl), (Nat.le_of_ble_eq_true rfl)⟩) (prV hE hK hP hD hS hA [0, 1] rfl rfl 6 0 rfl rfl rfl) rfl rfl hl.1 rfl (lv_room (Nat.le_of_ble_eq_true rfl)) dX8_ranked_59 ⟨(Nat.le_of_ble_eq_true rfl), (Nat.le_of_ble_eq_true rfl)⟩) hP hD hS hA [0, 1] [] [0, 1] rfl rfl rfl (by decide) rfl rfl (fun H locs hP hD hS => ?_)
        refine lv_isub hx hb dX8_ranked_62 ?_
        refine lv_istore (lv' := [(6, .int (v6.1 - v7.1)), (0, .ref aM), (1, .int y38_1), (2, .int y38_2), (3, .int y38_3), (4, .int y38_4), (5, .int y38_5)]) hx hb dX8_ranked_63 hl (by decide) rfl (fun ls hl => ?_)
        refine lv_iload hx hb dX8_ranked_65 (lv_at hl 0 rfl) ?_
        refine lv_if_gt (tgt := 81) hx hb dX8_ranked_67 (by decide) (fun c8 => ?_) (fun c8 => ?_)
        · have hF := oT c8 hF
          refine lv_iinc (v := y38_4 + (1 : Int32)) (lv' := [(4, .int (y38_4 + (1 : Int32))), (6, .int (v6.1 - v7.1)), (0, .ref aM), (1, .int y38_1), (2, .int y38_2), (3, .int y38_3), (5, .int y38_5)]) hx hb dX8_ranked_81 hl (k := 5) rfl (by first | rfl | decide) (by decide) rfl (fun ls hl => ?_)
          refine lv_iinc (v := y38_5 + (1 : Int32)) (lv' := [(5, .int (y38_5 + (1 : Int32))), (4, .int (y38_4 + (1 : Int32))), (6, .int (v6.1 - v7.1)), (0, .ref aM), (1, .int y38_1), (2, .int y38_2), (3, .int y38_3)]) hx hb dX8_ranked_84 hl (k := 6) rfl (by first | rfl | decide) (by decide) rfl (fun ls hl => ?_)
          refine lv_goto (tgt := 38) hx hb dX8_ranked_87 (by decide) ?_
          exact ih (y38_4 + (1 : Int32)) (y38_5 + (1 : Int32)) hF kx _ _ hP hD hS _ (lv_sub hl [3, 4, 5, 6, 1, 0] rfl)
        · have hF := oF c8 hF
          refine lv_iload hx hb dX8_ranked_70 (lv_at hl 0 rfl) ?_
          refine lv_if_ne (tgt := 84) hx hb dX8_ranked_72 (by decide) (fun c9 => ?_) (fun c9 => ?_)
          · have hF := oF c9 hF
            refine lv_iinc (v := y38_5 + (1 : Int32)) (lv' := [(5, .int (y38_5 + (1 : Int32))), (6, .int (v6.1 - v7.1)), (0, .ref aM), (1, .int y38_1), (2, .int y38_2), (3, .int y38_3), (4, .int y38_4)]) hx hb dX8_ranked_84 hl (k := 6) rfl (by first | rfl | decide) (by decide) rfl (fun ls hl => ?_)
            refine lv_goto (tgt := 38) hx hb dX8_ranked_87 (by decide) ?_
            exact ih y38_4 (y38_5 + (1 : Int32)) hF kx _ _ hP hD hS _ (lv_sub hl [2, 3, 4, 5, 6, 0] rfl)
          · have hF := oT c9 hF
            refine lv_iload hx hb dX8_ranked_75 (lv_at hl 6 rfl) ?_
            refine lv_iload_n hx hb dX8_ranked_77 rfl (lv_at hl 4 rfl) ?_
            refine lv_icmp_ge (tgt := 84) hx hb dX8_ranked_78 (by decide) (fun c10 => ?_) (fun c10 => ?_)
            · have hF := oT c10 hF
              refine lv_iinc (v := y38_5 + (1 : Int32)) (lv' := [(5, .int (y38_5 + (1 : Int32))), (6, .int (v6.1 - v7.1)), (0, .ref aM), (1, .int y38_1), (2, .int y38_2), (3, .int y38_3), (4, .int y38_4)]) hx hb dX8_ranked_84 hl (k := 6) rfl (by first | rfl | decide) (by decide) rfl (fun ls hl => ?_)
              refine lv_goto (tgt := 38) hx hb dX8_ranked_87 (by decide) ?_
              exact ih y38_4 (y38_5 + (1 : Int32)) hF kx _ _ hP hD hS _ (lv_sub hl [2, 3, 4, 5, 6, 0] rfl)
            · have hF := oF c10 hF
              refine lv_iinc (v := y38_4 + (1 : Int32)) (lv' := [(4, .int (y38_4 + (1 : Int32))), (6, .int (v6.1 - v7.1)), (0, .ref aM), (1, .int y38_1), (2, .int y38_2), (3, .int y38_3), (5, .int y38_5)]) hx hb dX8_ranked_81 hl (k := 5) rfl (by first | rfl | decide) (by decide) rfl (fun ls hl => ?_)
              refine lv_iinc (v := y38_5 + (1 : Int32)) (lv' := [(5, .int (y38_5 + (1 : Int32))), (4, .int (y38_4 + (1 : Int32))), (6, .int (v6.1 - v7.1)), (0, .ref aM), (1, .int y38_1), (2, .int y38_2), (3, .int y38_3)]) hx hb dX8_ranked_84 hl (k := 6) rfl (by first | rfl | decide) (by decide) rfl (fun ls hl => ?_)
              refine lv_goto (tgt := 38) hx hb dX8_ranked_87 (by decide) ?_
              exact ih (y38_4 + (1 : Int32)) (y38_5 + (1 : Int32)) hF kx _ _ hP hD hS _ (lv_sub hl [3, 4, 5, 6, 1, 0] rfl)
  have loop_22 : ∀ (y22_1 : Int32) (y22_2 : Int32) (mT_22 : Int32) (n : Nat) (y22_3 : Int32), f_X8_ranked_L22 nN y22_1 y22_2 mT_22 n y22_3 = some v → ∀ (H : Heap) (locs : List Loc), va_P D vwC7 [(aM, .inr (6, [.ref aMn, .ref aMt, .ref aMk, .int mU, .ref aMs, .int mB, .ref aMl, .int mI, .ref aMx, .int mH, .int mQ, .int mW, .ref aMd, .int mF, .int mR, .int mD, .int mJ, .int mA, .int mT_22])), (aMn, .inl (K 6, 55, .inl nN))] H → va_D A [(aM, .inr (6, [.ref aMn, .ref aMt, .ref aMk, .int mU, .ref aMs, .int mB, .ref aMl, .int mI, .ref aMx, .int mH, .int mQ, .int mW, .ref aMd, .int mF, .int mR, .int mD, .int mJ, .int mA, .int mT_22])), (aMn, .inl (K 6, 55, .inl nN))] → va_S A s.heap H locs → ∀ ls : Array Slot, lv_has ls 7 [(0, .ref aM), (1, .int y22_1), (2, .int y22_2), (3, .int y22_3)] → W p l e RM_X8_ranked s m args below meth c H locs 0 0 (MQ below (QI D (TY K) (wf_X8_ranked K aM aMn aMt aMk aMs aMl aMx aMd mU mB mI mH mQ mW mF mR mD mJ mA nN) v A) args s MC_X8_ranked MS_X8_ranked A) (F0 m 22 ls []) := by
    intro y22_1 y22_2 mT_22 n
    induction n with
    | zero =>
      intro y22_3 hF
      exact nomatch hF
    | succ n ih =>
      intro y22_3 hF H locs hP hD hS ls hl
      rw [f_X8_ranked_L22.eq_2] at hF
      refine lv_iload_n hx hb dX8_ranked_22 rfl (lv_at hl 3 rfl) ?_
      refine lv_aload_n hx hb dX8_ranked_23 rfl (lv_at hl 0 rfl) ?_
      refine va_get (D := D) (ci := 6) (v := .ref aMn) (C := RX8) (T := TX8) (N := 19) hx hb hts (fun _ h => List.mem_cons_of_mem _ (List.mem_append_left _ (List.mem_append_right _ h))) hown hK hP 0 rfl rfl 0 (by decide) (hts (.fieldLink RX8 9 "BarometerClubModel" "now" "[I") (List.mem_of_getElem? (i := 2) rfl)) (fun _ h9 => h9) rfl dX8_ranked_24 ?_
      refine lv_iconst (v := (0 : Int32)) hx hb dX8_ranked_27 (by decide) ?_
      refine va_iald hx hb hK hP 1 6 rfl rfl (inB_in (by decide : inB (0 : Int32) 55 = true)) dX8_ranked_28 ?_
      refine lv_icmp_ge (tgt := 104) hx hb dX8_ranked_29 (by decide) (fun c3 => ?_) (fun c3 => ?_)
      · have hF := oT c3 hF
        refine lv_aload_n hx hb dX8_ranked_104 rfl (lv_at hl 0 rfl) ?_
        refine lv_iconst (v := (2 : Int32)) hx hb dX8_ranked_105 (by decide) ?_
        obtain ⟨v4, hv4, hF⟩ := oB hF
        refine call_i (wr := [(aMn, .inl (K 6, 55, .inl nN))]) (wn := [(aM, .inr (6, [.ref aMn, .ref aMt, .ref aMk, .int mU, .ref aMs, .int mB, .ref aMl, .int mI, .ref aMx, .int mH, .int mQ, .int mW, .ref aMd, .int mF, .int mR, .int mD, .int mJ, .int mA, .int v4.2])), (aMn, .inl (K 6, 55, .inl nN))]) (va_runV (As := [.int (2 : Int32)]) (rest := []) ⟨hx, hb, hml, hown, hts⟩ (c_X8_raises l D K aM aMn aMt aMk aMs aMl aMx aMd mU mB mI mH mQ mW mF mR mD mJ mA mT_22 (2 : Int32) v4 hv4 H.size) (cwV 1 hts gX8_ranked_X8_raises rfl rfl rfl (by decide +kernel) ⟨(Nat.le_of_ble_eq_true rfl), (Nat.le_of_ble_eq_true rfl)⟩) (prV hE hK hP hD hS hA [0] rfl rfl 6 0 rfl rfl rfl) rfl rfl hl.1 rfl (lv_room (Nat.le_of_ble_eq_true rfl)) dX8_ranked_106 ⟨(Nat.le_of_ble_eq_true rfl), (Nat.le_of_ble_eq_true rfl)⟩) hP hD hS hA [0] [1] [1, 0] rfl rfl rfl (by decide) rfl rfl (fun H locs hP hD hS => ?_)
        exact fin_i (u := (v4.1, v4.2)) hF hx hb hr hlocks hK hP hD hS (Nat.le_of_ble_eq_true rfl) (Nat.le_of_ble_eq_true rfl) dX8_ranked_109
      · have hF := oF c3 hF
        refine lv_iconst (v := (0 : Int32)) hx hb dX8_ranked_32 (by decide) ?_
        refine lv_istore (lv' := [(4, .int (0 : Int32)), (0, .ref aM), (1, .int y22_1), (2, .int y22_2), (3, .int y22_3)]) hx hb dX8_ranked_33 hl (by decide) rfl (fun ls hl => ?_)
        refine lv_iconst (v := (0 : Int32)) hx hb dX8_ranked_35 (by decide) ?_
        refine lv_istore (lv' := [(5, .int (0 : Int32)), (4, .int (0 : Int32)), (0, .ref aM), (1, .int y22_1), (2, .int y22_2), (3, .int y22_3)]) hx hb dX8_ranked_36 hl (by decide) rfl (fun ls hl => ?_)
        obtain ⟨u11, hu11, hF⟩ := oB hF
        refine loop_38 y22_1 y22_2 y22_3 mT_22 u11 FU (0 : Int32) (0 : Int32) hu11 (fun H locs hP hD hS ls hl => ?_) _ _ hP hD hS _ (lv_sub hl [2, 3, 4, 5, 1, 0] rfl)
        refine lv_iload hx hb dX8_ranked_90 (lv_at hl 4 rfl) ?_
        refine lv_iload_n hx hb dX8_ranked_92 rfl (lv_at hl 2 rfl) ?_
        refine lv_icmp_ne (tgt := 98) hx hb dX8_ranked_93 (by decide) (fun c12 => ?_) (fun c12 => ?_)
        · have hF := oF c12 hF
          refine lv_iinc (v := y22_3 + (1 : Int32)) (lv' := [(3, .int (y22_3 + (1 : Int32))), (0, .ref aM), (1, .int y22_1), (2, .int y22_2), (4, .int u11.1), (5, .int u11.2)]) hx hb dX8_ranked_98 hl (k := 3) rfl (by first | rfl | decide) (by decide) rfl (fun ls hl => ?_)
          refine lv_goto (tgt := 22) hx hb dX8_ranked_101 (by decide) ?_
          exact ih (y22_3 + (1 : Int32)) hF _ _ hP hD hS _ (lv_sub hl [1, 2, 3, 0] rfl)
        · have hF := oT c12 hF
          refine lv_iload_n hx hb dX8_ranked_96 rfl (lv_at hl 3 rfl) ?_
          exact fin_i (u := (y22_3, mT_22)) hF hx hb hr hlocks hK hP hD hS (Nat.le_of_ble_eq_true rfl) (Nat.le_of_ble_eq_true rfl) dX8_ranked_97
  rw [f_X8_ranked] at hF
  refine lv_aload_n hx hb dX8_ranked_0 rfl (lv_at hl 0 rfl) ?_
  refine lv_iconst (v := (0 : Int32)) hx hb dX8_ranked_1 (by decide) ?_
  refine va_put (D := D) (ci := 6) (v := .int (0 : Int32)) (ty := .int) (C := RX8) (T := TX8) (N := 19) hx hb hts (fun _ h => List.mem_cons_of_mem _ (List.mem_append_left _ (List.mem_append_right _ h))) tyX8 tyX8_ok nmX8 hown hK hP hD hS 0 rfl rfl 18 (by decide) (hts (.fieldLink RX8 36 "BarometerClubModel" "thrown" "I") (List.mem_of_getElem? (i := 1) rfl)) (fun _ h9 => h9) rfl (by decide +kernel) rfl rfl (Nat.le_of_ble_eq_true rfl) dX8_ranked_2 (fun H locs hP hD hS => ?_)
  have hP : va_P D vwC7 [(aM, .inr (6, [.ref aMn, .ref aMt, .ref aMk, .int mU, .ref aMs, .int mB, .ref aMl, .int mI, .ref aMx, .int mH, .int mQ, .int mW, .ref aMd, .int mF, .int mR, .int mD, .int mJ, .int mA, .int (0 : Int32)])), (aMn, .inl (K 6, 55, .inl nN))] H := hP
  have hD : va_D A [(aM, .inr (6, [.ref aMn, .ref aMt, .ref aMk, .int mU, .ref aMs, .int mB, .ref aMl, .int mI, .ref aMx, .int mH, .int mQ, .int mW, .ref aMd, .int mF, .int mR, .int mD, .int mJ, .int mA, .int (0 : Int32)])), (aMn, .inl (K 6, 55, .inl nN))] := hD
  refine lv_iload_n hx hb dX8_ranked_5 rfl (lv_at hl 1 rfl) ?_
  refine lv_iconst (v := (0 : Int32)) hx hb dX8_ranked_6 (by decide) ?_
  refine lv_iconst (v := (3 : Int32)) hx hb dX8_ranked_7 (by decide) ?_
  obtain ⟨v1, hv1, hF⟩ := oB hF
  refine call_i (wr := [(aM, .inr (6, [.ref aMn, .ref aMt, .ref aMk, .int mU, .ref aMs, .int mB, .ref aMl, .int mI, .ref aMx, .int mH, .int mQ, .int mW, .ref aMd, .int mF, .int mR, .int mD, .int mJ, .int mA, .int (0 : Int32)])), (aMn, .inl (K 6, 55, .inl nN))]) (wn := [(aM, .inr (6, [.ref aMn, .ref aMt, .ref aMk, .int mU, .ref aMs, .int mB, .ref aMl, .int mI, .ref aMx, .int mH, .int mQ, .int mW, .ref aMd, .int mF, .int mR, .int mD, .int mJ, .int mA, .int (0 : Int32)])), (aMn, .inl (K 6, 55, .inl nN))]) (va_runS (As := [.int p1, .int (0 : Int32), .int (3 : Int32)]) (rest := []) ⟨hx, hb, hml, hown, hts⟩ (c_X8_in l D K p1 (0 : Int32) (3 : Int32) v1 hv1 H.size) (va_cwS 3 hts gX8_ranked_X8_in rfl rfl rfl (by decide +kernel) ⟨(Nat.le_of_ble_eq_true rfl), (Nat.le_of_ble_eq_true rfl)⟩) (prS hE hK hP hD hS hA [] rfl rfl) rfl rfl hl.1 rfl (lv_room (Nat.le_of_ble_eq_true rfl)) dX8_ranked_8 ⟨(Nat.le_of_ble_eq_true rfl), (Nat.le_of_ble_eq_true rfl)⟩) hP hD hS hA [] [0, 1] [0, 1] rfl rfl rfl (by decide) rfl rfl (fun H locs hP hD hS => ?_)
  refine lv_if_ne (tgt := 20) hx hb dX8_ranked_11 (by decide) (fun c2 => ?_) (fun c2 => ?_)
  · have hF := oF c2 hF
    refine lv_iconst (v := (0 : Int32)) hx hb dX8_ranked_20 (by decide) ?_
    refine lv_istore_n (lv' := [(3, .int (0 : Int32)), (0, .ref aM), (1, .int p1), (2, .int p2)]) hx hb dX8_ranked_21 rfl hl (by decide) rfl (fun ls hl => ?_)
    exact loop_22 p1 p2 (0 : Int32) FU (0 : Int32) hF _ _ hP hD hS _ (lv_sub hl [1, 2, 3, 0] rfl)
  · have hF := oT c2 hF
    refine lv_aload_n hx hb dX8_ranked_14 rfl (lv_at hl 0 rfl) ?_
    refine lv_iconst (v := (1 : Int32)) hx hb dX8_ranked_15 (by decide) ?_
    obtain ⟨v13, hv13, hF⟩ := oB hF
    refine call_i (wr := [(aMn, .inl (K 6, 55, .inl nN))]) (wn := [(aM, .inr (6, [.ref aMn, .ref aMt, .ref aMk, .int mU, .ref aMs, .int mB, .ref aMl, .int mI, .ref aMx, .int mH, .int mQ, .int mW, .ref aMd, .int mF, .int mR, .int mD, .int mJ, .int mA, .int v13.2])), (aMn, .inl (K 6, 55, .inl nN))]) (va_runV (As := [.int (1 : Int32)]) (rest := []) ⟨hx, hb, hml, hown, hts⟩ (c_X8_raises l D K aM aMn aMt aMk aMs aMl aMx aMd mU mB mI mH mQ mW mF mR mD mJ mA (0 : Int32) (1 : Int32) v13 hv13 H.size) (cwV 1 hts gX8_ranked_X8_raises rfl rfl rfl (by decide +kernel) ⟨(Nat.le_of_ble_eq_true rfl), (Nat.le_of_ble_eq_true rfl)⟩) (prV hE hK hP hD hS hA [0] rfl rfl 6 0 rfl rfl rfl) rfl rfl hl.1 rfl (lv_room (Nat.le_of_ble_eq_true rfl)) dX8_ranked_16 ⟨(Nat.le_of_ble_eq_true rfl), (Nat.le_of_ble_eq_true rfl)⟩) hP hD hS hA [0] [1] [1, 0] rfl rfl rfl (by decide) rfl rfl (fun H locs hP hD hS => ?_)
    exact fin_i (u := (v13.1, v13.2)) hF hx hb hr hlocks hK hP hD hS (Nat.le_of_ble_eq_true rfl) (Nat.le_of_ble_eq_true rfl) dX8_ranked_19
abbrev RM_X8_weather : Room := { frames := 1, cells := 0, slots := 0, locals := 22 }
abbrev MC_X8_weather : Nat := 0
abbrev MS_X8_weather : Nat := 0
abbrev wf_X8_weather (K : Nat → ClassId) (aM : Nat) (aMn : Nat) (aMt : Nat) (aMk : Nat) (aMs : Nat) (aMl : Nat) (aMx : Nat) (aMd : Nat) (mU : Int32) (mB : Int32) (mI : Int32) (mH : Int32) (mQ : Int32) (mW : Int32) (mF : Int32) (mR : Int32) (mD : Int32) (mJ : Int32) (mA : Int32) (nN : Nat → Int32) (v : Int32 × Int32) : va_W := [(aM, .inr (6, [.ref aMn, .ref aMt, .ref aMk, .int mU, .ref aMs, .int mB, .ref aMl, .int mI, .ref aMx, .int mH, .int mQ, .int mW, .ref aMd, .int mF, .int mR, .int mD, .int mJ, .int mA, .int v.2])), (aMn, .inl (K 6, 55, .inl nN))]
set_option maxHeartbeats 4000000 in
set_option maxRecDepth 100000 in
theorem c_X8_weather (l : Launch) (D : va_G) (K : Nat → ClassId) (aM : Nat) (aMn : Nat) (aMt : Nat) (aMk : Nat) (aMs : Nat) (aMl : Nat) (aMx : Nat) (aMd : Nat) (mU : Int32) (mB : Int32) (mI : Int32) (mH : Int32) (mQ : Int32) (mW : Int32) (mF : Int32) (mR : Int32) (mD : Int32) (mJ : Int32) (mA : Int32) (mT : Int32) (nN : Nat → Int32) (p1 : Int32) (v : Int32 × Int32) (hF : f_X8_weather mT nN p1 = some v) (sz : Nat) :
    (Met l yX8_weather wsX8_weather RM_X8_weather (PC D (TY K) [(aM, .inr (6, [.ref aMn, .ref aMt, .ref aMk, .int mU, .ref aMs, .int mB, .ref aMl, .int mI, .ref aMx, .int mH, .int mQ, .int mW, .ref aMd, .int mF, .int mR, .int mD, .int mJ, .int mA, .int mT])), (aMn, .inl (K 6, 55, .inl nN))] [.ref aM, .int p1] sz) (QI D (TY K) (wf_X8_weather K aM aMn aMt aMk aMs aMl aMx aMd mU mB mI mH mQ mW mF mR mD mJ mA nN) v (va_A [(aM, .inr (6, [.ref aMn, .ref aMt, .ref aMk, .int mU, .ref aMs, .int mB, .ref aMl, .int mI, .ref aMx, .int mH, .int mQ, .int mW, .ref aMd, .int mF, .int mR, .int mD, .int mJ, .int mA, .int mT])), (aMn, .inl (K 6, 55, .inl nN))] sz)) MC_X8_weather MS_X8_weather (va_A [(aM, .inr (6, [.ref aMn, .ref aMt, .ref aMk, .int mU, .ref aMs, .int mB, .ref aMl, .int mI, .ref aMx, .int mH, .int mQ, .int mW, .ref aMd, .int mF, .int mR, .int mD, .int mJ, .int mA, .int mT])), (aMn, .inl (K 6, 55, .inl nN))] sz)) := by
  refine pro (Qf := fun A => QI D (TY K) (wf_X8_weather K aM aMn aMt aMk aMs aMl aMx aMd mU mB mI mH mQ mW mF mR mD mJ mA nN) v A) (cc := cX8_weather) (maxL := 2) (ret := (some .int)) (by decide +kernel) rfl (Nat.le_of_ble_eq_true rfl) ?_
  intro p e s m args below meth c hx hb hr hts hown hlocks hml hini hK A hA hE hP hD hS ls hl
  have hown : s.vm.findClass RX8 = some m.cls := hown
  have hl : lv_has ls 2 [(0, .ref aM), (1, .int p1)] := hl
  rw [f_X8_weather] at hF
  refine lv_aload_n hx hb dX8_weather_0 rfl (lv_at hl 0 rfl) ?_
  refine lv_iload_n hx hb dX8_weather_1 rfl (lv_at hl 1 rfl) ?_
  refine lv_iconst (v := (0 : Int32)) hx hb dX8_weather_2 (by decide) ?_
  refine lv_iconst (v := (5 : Int32)) hx hb dX8_weather_3 (by decide) ?_
  obtain ⟨v1, hv1, hF⟩ := oB hF
  refine call_i (wr := [(aM, .inr (6, [.ref aMn, .ref aMt, .ref aMk, .int mU, .ref aMs, .int mB, .ref aMl, .int mI, .ref aMx, .int mH, .int mQ, .int mW, .ref aMd, .int mF, .int mR, .int mD, .int mJ, .int mA, .int mT])), (aMn, .inl (K 6, 55, .inl nN))]) (wn := [(aM, .inr (6, [.ref aMn, .ref aMt, .ref aMk, .int mU, .ref aMs, .int mB, .ref aMl, .int mI, .ref aMx, .int mH, .int mQ, .int mW, .ref aMd, .int mF, .int mR, .int mD, .int mJ, .int mA, .int mT])), (aMn, .inl (K 6, 55, .inl nN))]) (va_runS (As := [.int p1, .int (0 : Int32), .int (5 : Int32)]) (rest := [.ref aM]) ⟨hx, hb, hml, hown, hts⟩ (c_X8_in l D K p1 (0 : Int32) (5 : Int32) v1 hv1 s.heap.size) (va_cwS 3 hts gX8_weather_X8_in rfl rfl rfl (by decide +kernel) ⟨(Nat.le_of_ble_eq_true rfl), (Nat.le_of_ble_eq_true rfl)⟩) (prS hE hK hP hD hS hA [] rfl rfl) rfl rfl hl.1 rfl (lv_room (Nat.le_of_ble_eq_true rfl)) dX8_weather_4 ⟨(Nat.le_of_ble_eq_true rfl), (Nat.le_of_ble_eq_true rfl)⟩) hP hD hS hA [] [0, 1] [0, 1] rfl rfl rfl (by decide) rfl rfl (fun H locs hP hD hS => ?_)
  refine lv_if_eq (tgt := 14) hx hb dX8_weather_7 (by decide) (fun c2 => ?_) (fun c2 => ?_)
  · have hF := oT c2 hF
    refine lv_iconst (v := (1 : Int32)) hx hb dX8_weather_14 (by decide) ?_
    refine va_put (D := D) (ci := 6) (v := .int (1 : Int32)) (ty := .int) (C := RX8) (T := TX8) (N := 19) hx hb hts (fun _ h => List.mem_cons_of_mem _ (List.mem_append_left _ (List.mem_append_right _ h))) tyX8 tyX8_ok nmX8 hown hK hP hD hS 0 rfl rfl 18 (by decide) (hts (.fieldLink RX8 36 "BarometerClubModel" "thrown" "I") (List.mem_of_getElem? (i := 1) rfl)) (fun _ h9 => h9) rfl (by decide +kernel) rfl rfl (Nat.le_of_ble_eq_true rfl) dX8_weather_15 (fun H locs hP hD hS => ?_)
    have hP : va_P D vwC7 [(aM, .inr (6, [.ref aMn, .ref aMt, .ref aMk, .int mU, .ref aMs, .int mB, .ref aMl, .int mI, .ref aMx, .int mH, .int mQ, .int mW, .ref aMd, .int mF, .int mR, .int mD, .int mJ, .int mA, .int (1 : Int32)])), (aMn, .inl (K 6, 55, .inl nN))] H := hP
    have hD : va_D A [(aM, .inr (6, [.ref aMn, .ref aMt, .ref aMk, .int mU, .ref aMs, .int mB, .ref aMl, .int mI, .ref aMx, .int mH, .int mQ, .int mW, .ref aMd, .int mF, .int mR, .int mD, .int mJ, .int mA, .int (1 : Int32)])), (aMn, .inl (K 6, 55, .inl nN))] := hD
    refine lv_aload_n hx hb dX8_weather_18 rfl (lv_at hl 0 rfl) ?_
    refine va_get (D := D) (ci := 6) (v := .int (1 : Int32)) (C := RX8) (T := TX8) (N := 19) hx hb hts (fun _ h => List.mem_cons_of_mem _ (List.mem_append_left _ (List.mem_append_right _ h))) hown hK hP 0 rfl rfl 18 (by decide) (hts (.fieldLink RX8 36 "BarometerClubModel" "thrown" "I") (List.mem_of_getElem? (i := 1) rfl)) (fun _ h9 => h9) rfl dX8_weather_19 ?_
    refine lv_if_ne (tgt := 36) hx hb dX8_weather_22 (by decide) (fun _ => ?_) (fun c9 => absurd c9 (by decide))
    refine lv_iconst (v := (0 : Int32)) hx hb dX8_weather_36 (by decide) ?_
    exact fin_i (u := ((0 : Int32), (1 : Int32))) hF hx hb hr hlocks hK hP hD hS (Nat.le_of_ble_eq_true rfl) (Nat.le_of_ble_eq_true rfl) dX8_weather_37
  · have hF := oF c2 hF
    refine lv_iconst (v := (0 : Int32)) hx hb dX8_weather_10 (by decide) ?_
    refine lv_goto (tgt := 15) hx hb dX8_weather_11 (by decide) ?_
    refine va_put (D := D) (ci := 6) (v := .int (0 : Int32)) (ty := .int) (C := RX8) (T := TX8) (N := 19) hx hb hts (fun _ h => List.mem_cons_of_mem _ (List.mem_append_left _ (List.mem_append_right _ h))) tyX8 tyX8_ok nmX8 hown hK hP hD hS 0 rfl rfl 18 (by decide) (hts (.fieldLink RX8 36 "BarometerClubModel" "thrown" "I") (List.mem_of_getElem? (i := 1) rfl)) (fun _ h9 => h9) rfl (by decide +kernel) rfl rfl (Nat.le_of_ble_eq_true rfl) dX8_weather_15 (fun H locs hP hD hS => ?_)
    have hP : va_P D vwC7 [(aM, .inr (6, [.ref aMn, .ref aMt, .ref aMk, .int mU, .ref aMs, .int mB, .ref aMl, .int mI, .ref aMx, .int mH, .int mQ, .int mW, .ref aMd, .int mF, .int mR, .int mD, .int mJ, .int mA, .int (0 : Int32)])), (aMn, .inl (K 6, 55, .inl nN))] H := hP
    have hD : va_D A [(aM, .inr (6, [.ref aMn, .ref aMt, .ref aMk, .int mU, .ref aMs, .int mB, .ref aMl, .int mI, .ref aMx, .int mH, .int mQ, .int mW, .ref aMd, .int mF, .int mR, .int mD, .int mJ, .int mA, .int (0 : Int32)])), (aMn, .inl (K 6, 55, .inl nN))] := hD
    refine lv_aload_n hx hb dX8_weather_18 rfl (lv_at hl 0 rfl) ?_
    refine va_get (D := D) (ci := 6) (v := .int (0 : Int32)) (C := RX8) (T := TX8) (N := 19) hx hb hts (fun _ h => List.mem_cons_of_mem _ (List.mem_append_left _ (List.mem_append_right _ h))) hown hK hP 0 rfl rfl 18 (by decide) (hts (.fieldLink RX8 36 "BarometerClubModel" "thrown" "I") (List.mem_of_getElem? (i := 1) rfl)) (fun _ h9 => h9) rfl dX8_weather_19 ?_
    refine lv_if_ne (tgt := 36) hx hb dX8_weather_22 (by decide) (fun c9 => absurd (by decide) c9) (fun _ => ?_)
    refine lv_aload_n hx hb dX8_weather_25 rfl (lv_at hl 0 rfl) ?_
    refine va_get (D := D) (ci := 6) (v := .ref aMn) (C := RX8) (T := TX8) (N := 19) hx hb hts (fun _ h => List.mem_cons_of_mem _ (List.mem_append_left _ (List.mem_append_right _ h))) hown hK hP 0 rfl rfl 0 (by decide) (hts (.fieldLink RX8 9 "BarometerClubModel" "now" "[I") (List.mem_of_getElem? (i := 2) rfl)) (fun _ h9 => h9) rfl dX8_weather_26 ?_
    refine lv_iconst (v := (1 : Int32)) hx hb dX8_weather_29 (by decide) ?_
    refine lv_iload_n hx hb dX8_weather_30 rfl (lv_at hl 1 rfl) ?_
    refine lv_iadd hx hb dX8_weather_31 ?_
    obtain ⟨g5, hF⟩ := oG hF
    refine va_iald hx hb hK hP 1 6 rfl rfl (inB_in g5) dX8_weather_32 ?_
    refine lv_goto (tgt := 37) hx hb dX8_weather_33 (by decide) ?_
    exact fin_i (u := (nN ((1 : Int32) + p1).toNatClampNeg, (0 : Int32))) hF hx hb hr hlocks hK hP hD hS (Nat.le_of_ble_eq_true rfl) (Nat.le_of_ble_eq_true rfl) dX8_weather_37
abbrev RM_X8_isEven : Room := { frames := 0, cells := 0, slots := 0, locals := 0 }
abbrev MC_X8_isEven : Nat := 0
abbrev MS_X8_isEven : Nat := 0
abbrev wf_X8_isEven (K : Nat → ClassId) (aM : Nat) (aMn : Nat) (aMt : Nat) (aMk : Nat) (aMs : Nat) (aMl : Nat) (aMx : Nat) (aMd : Nat) (mU : Int32) (mB : Int32) (mI : Int32) (mH : Int32) (mQ : Int32) (mW : Int32) (mF : Int32) (mR : Int32) (mD : Int32) (mJ : Int32) (mA : Int32) (v : Int32 × Int32) : va_W := [(aM, .inr (6, [.ref aMn, .ref aMt, .ref aMk, .int mU, .ref aMs, .int mB, .ref aMl, .int mI, .ref aMx, .int mH, .int mQ, .int mW, .ref aMd, .int mF, .int mR, .int mD, .int mJ, .int mA, .int v.2]))]
set_option maxHeartbeats 4000000 in
set_option maxRecDepth 100000 in
theorem c_X8_isEven (l : Launch) (D : va_G) (K : Nat → ClassId) (aM : Nat) (aMn : Nat) (aMt : Nat) (aMk : Nat) (aMs : Nat) (aMl : Nat) (aMx : Nat) (aMd : Nat) (mU : Int32) (mB : Int32) (mI : Int32) (mH : Int32) (mQ : Int32) (mW : Int32) (mF : Int32) (mR : Int32) (mD : Int32) (mJ : Int32) (mA : Int32) (mT : Int32)  (v : Int32 × Int32) (hF : f_X8_isEven mT = some v) (sz : Nat) :
    (Met l yX8_isEven wsX8_isEven RM_X8_isEven (PC D (TY K) [(aM, .inr (6, [.ref aMn, .ref aMt, .ref aMk, .int mU, .ref aMs, .int mB, .ref aMl, .int mI, .ref aMx, .int mH, .int mQ, .int mW, .ref aMd, .int mF, .int mR, .int mD, .int mJ, .int mA, .int mT]))] [.ref aM] sz) (QI D (TY K) (wf_X8_isEven K aM aMn aMt aMk aMs aMl aMx aMd mU mB mI mH mQ mW mF mR mD mJ mA) v (va_A [(aM, .inr (6, [.ref aMn, .ref aMt, .ref aMk, .int mU, .ref aMs, .int mB, .ref aMl, .int mI, .ref aMx, .int mH, .int mQ, .int mW, .ref aMd, .int mF, .int mR, .int mD, .int mJ, .int mA, .int mT]))] sz)) MC_X8_isEven MS_X8_isEven (va_A [(aM, .inr (6, [.ref aMn, .ref aMt, .ref aMk, .int mU, .ref aMs, .int mB, .ref aMl, .int mI, .ref aMx, .int mH, .int mQ, .int mW, .ref aMd, .int mF, .int mR, .int mD, .int mJ, .int mA, .int mT]))] sz)) := by
  refine pro (Qf := fun A => QI D (TY K) (wf_X8_isEven K aM aMn aMt aMk aMs aMl aMx aMd mU mB mI mH mQ mW mF mR mD mJ mA) v A) (cc := cX8_isEven) (maxL := 1) (ret := (some .boolean)) (by decide +kernel) rfl (Nat.le_of_ble_eq_true rfl) ?_
  intro p e s m args below meth c hx hb hr hts hown hlocks hml hini hK A hA hE hP hD hS ls hl
  have hown : s.vm.findClass RX8 = some m.cls := hown
  have hl : lv_has ls 1 [(0, .ref aM)] := hl
  rw [f_X8_isEven] at hF
  refine lv_aload_n hx hb dX8_isEven_0 rfl (lv_at hl 0 rfl) ?_
  refine lv_iconst (v := (0 : Int32)) hx hb dX8_isEven_1 (by decide) ?_
  refine va_put (D := D) (ci := 6) (v := .int (0 : Int32)) (ty := .int) (C := RX8) (T := TX8) (N := 19) hx hb hts (fun _ h => List.mem_cons_of_mem _ (List.mem_append_right _ h)) tyX8 tyX8_ok nmX8 hown hK hP hD hS 0 rfl rfl 18 (by decide) (hts (.fieldLink RX8 36 "BarometerClubModel" "thrown" "I") (List.mem_of_getElem? (i := 1) rfl)) (fun _ h9 => h9) rfl (by decide +kernel) rfl rfl (Nat.le_of_ble_eq_true rfl) dX8_isEven_2 (fun H locs hP hD hS => ?_)
  have hP : va_P D vwC7 [(aM, .inr (6, [.ref aMn, .ref aMt, .ref aMk, .int mU, .ref aMs, .int mB, .ref aMl, .int mI, .ref aMx, .int mH, .int mQ, .int mW, .ref aMd, .int mF, .int mR, .int mD, .int mJ, .int mA, .int (0 : Int32)]))] H := hP
  have hD : va_D A [(aM, .inr (6, [.ref aMn, .ref aMt, .ref aMk, .int mU, .ref aMs, .int mB, .ref aMl, .int mI, .ref aMx, .int mH, .int mQ, .int mW, .ref aMd, .int mF, .int mR, .int mD, .int mJ, .int mA, .int (0 : Int32)]))] := hD
  refine lv_iconst (v := (1 : Int32)) hx hb dX8_isEven_5 (by decide) ?_
  exact fin_z (u := ((1 : Int32), (0 : Int32))) hF (okN_n (ty := .boolean) (x := (1 : Int32)) (by decide)) hx hb hr hlocks hK hP hD hS (Nat.le_of_ble_eq_true rfl) (Nat.le_of_ble_eq_true rfl) dX8_isEven_6
abbrev RM_X8_append : Room := { frames := 1, cells := 0, slots := 0, locals := 21 }
abbrev MC_X8_append : Nat := 0
abbrev MS_X8_append : Nat := 0
abbrev wf_X8_append (K : Nat → ClassId) (aM : Nat) (aMn : Nat) (aMt : Nat) (aMk : Nat) (aMs : Nat) (aMl : Nat) (aMx : Nat) (aMd : Nat) (mU : Int32) (mB : Int32) (mI : Int32) (mQ : Int32) (mW : Int32) (mF : Int32) (mR : Int32) (mD : Int32) (mJ : Int32) (mA : Int32) (v : Int32 × Int32 × Int32 × (Nat → Int32)) : va_W := [(aM, .inr (6, [.ref aMn, .ref aMt, .ref aMk, .int mU, .ref aMs, .int mB, .ref aMl, .int mI, .ref aMx, .int v.2.1, .int mQ, .int mW, .ref aMd, .int mF, .int mR, .int mD, .int mJ, .int mA, .int v.2.2.1])), (aMx, .inl (K 11, 60, .inl v.2.2.2))]
set_option maxHeartbeats 4000000 in
set_option maxRecDepth 100000 in
theorem c_X8_append (l : Launch) (D : va_G) (K : Nat → ClassId) (aM : Nat) (aMn : Nat) (aMt : Nat) (aMk : Nat) (aMs : Nat) (aMl : Nat) (aMx : Nat) (aMd : Nat) (mU : Int32) (mB : Int32) (mI : Int32) (mH : Int32) (mQ : Int32) (mW : Int32) (mF : Int32) (mR : Int32) (mD : Int32) (mJ : Int32) (mA : Int32) (mT : Int32) (nX : Nat → Int32) (p1 : Int32) (v : Int32 × Int32 × Int32 × (Nat → Int32)) (hF : f_X8_append mH mT nX p1 = some v) (sz : Nat) :
    (Met l yX8_append wsX8_append RM_X8_append (PC D (TY K) [(aM, .inr (6, [.ref aMn, .ref aMt, .ref aMk, .int mU, .ref aMs, .int mB, .ref aMl, .int mI, .ref aMx, .int mH, .int mQ, .int mW, .ref aMd, .int mF, .int mR, .int mD, .int mJ, .int mA, .int mT])), (aMx, .inl (K 11, 60, .inl nX))] [.ref aM, .int p1] sz) (QI D (TY K) (wf_X8_append K aM aMn aMt aMk aMs aMl aMx aMd mU mB mI mQ mW mF mR mD mJ mA) v (va_A [(aM, .inr (6, [.ref aMn, .ref aMt, .ref aMk, .int mU, .ref aMs, .int mB, .ref aMl, .int mI, .ref aMx, .int mH, .int mQ, .int mW, .ref aMd, .int mF, .int mR, .int mD, .int mJ, .int mA, .int mT])), (aMx, .inl (K 11, 60, .inl nX))] sz)) MC_X8_append MS_X8_append (va_A [(aM, .inr (6, [.ref aMn, .ref aMt, .ref aMk, .int mU, .ref aMs, .int mB, .ref aMl, .int mI, .ref aMx, .int mH, .int mQ, .int mW, .ref aMd, .int mF, .int mR, .int mD, .int mJ, .int mA, .int mT])), (aMx, .inl (K 11, 60, .inl nX))] sz)) := by
  refine pro (Qf := fun A => QI D (TY K) (wf_X8_append K aM aMn aMt aMk aMs aMl aMx aMd mU mB mI mQ mW mF mR mD mJ mA) v A) (cc := cX8_append) (maxL := 2) (ret := (some .int)) (by decide +kernel) rfl (Nat.le_of_ble_eq_true rfl) ?_
  intro p e s m args below meth c hx hb hr hts hown hlocks hml hini hK A hA hE hP hD hS ls hl
  have hown : s.vm.findClass RX8 = some m.cls := hown
  have hl : lv_has ls 2 [(0, .ref aM), (1, .int p1)] := hl
  rw [f_X8_append] at hF
  refine lv_aload_n hx hb dX8_append_0 rfl (lv_at hl 0 rfl) ?_
  refine lv_iconst (v := (0 : Int32)) hx hb dX8_append_1 (by decide) ?_
  refine va_put (D := D) (ci := 6) (v := .int (0 : Int32)) (ty := .int) (C := RX8) (T := TX8) (N := 19) hx hb hts (fun _ h => List.mem_cons_of_mem _ (List.mem_append_left _ (List.mem_append_right _ h))) tyX8 tyX8_ok nmX8 hown hK hP hD hS 0 rfl rfl 18 (by decide) (hts (.fieldLink RX8 36 "BarometerClubModel" "thrown" "I") (List.mem_of_getElem? (i := 1) rfl)) (fun _ h9 => h9) rfl (by decide +kernel) rfl rfl (Nat.le_of_ble_eq_true rfl) dX8_append_2 (fun H locs hP hD hS => ?_)
  have hP : va_P D vwC7 [(aM, .inr (6, [.ref aMn, .ref aMt, .ref aMk, .int mU, .ref aMs, .int mB, .ref aMl, .int mI, .ref aMx, .int mH, .int mQ, .int mW, .ref aMd, .int mF, .int mR, .int mD, .int mJ, .int mA, .int (0 : Int32)])), (aMx, .inl (K 11, 60, .inl nX))] H := hP
  have hD : va_D A [(aM, .inr (6, [.ref aMn, .ref aMt, .ref aMk, .int mU, .ref aMs, .int mB, .ref aMl, .int mI, .ref aMx, .int mH, .int mQ, .int mW, .ref aMd, .int mF, .int mR, .int mD, .int mJ, .int mA, .int (0 : Int32)])), (aMx, .inl (K 11, 60, .inl nX))] := hD
  refine lv_aload_n hx hb dX8_append_5 rfl (lv_at hl 0 rfl) ?_
  refine va_get (D := D) (ci := 6) (v := .int mH) (C := RX8) (T := TX8) (N := 19) hx hb hts (fun _ h => List.mem_cons_of_mem _ (List.mem_append_left _ (List.mem_append_right _ h))) hown hK hP 0 rfl rfl 9 (by decide) (hts (.fieldLink RX8 176 "BarometerClubModel" "length" "I") (List.mem_of_getElem? (i := 2) rfl)) (fun _ h9 => h9) rfl dX8_append_6 ?_
  refine lv_bipush (v := (60 : Int32)) hx hb dX8_append_9 (by decide) ?_
  refine lv_icmp_ne (tgt := 20) hx hb dX8_append_11 (by decide) (fun c1 => ?_) (fun c1 => ?_)
  · have hF := oF c1 hF
    refine lv_aload_n hx hb dX8_append_20 rfl (lv_at hl 0 rfl) ?_
    refine va_get (D := D) (ci := 6) (v := .ref aMx) (C := RX8) (T := TX8) (N := 19) hx hb hts (fun _ h => List.mem_cons_of_mem _ (List.mem_append_left _ (List.mem_append_right _ h))) hown hK hP 0 rfl rfl 8 (by decide) (hts (.fieldLink RX8 26 "BarometerClubModel" "text" "[C") (List.mem_of_getElem? (i := 3) rfl)) (fun _ h9 => h9) rfl dX8_append_21 ?_
    refine lv_aload_n hx hb dX8_append_24 rfl (lv_at hl 0 rfl) ?_
    refine lv_dup hx hb dX8_append_25 rfl ?_
    refine va_get (D := D) (ci := 6) (v := .int mH) (C := RX8) (T := TX8) (N := 19) hx hb hts (fun _ h => List.mem_cons_of_mem _ (List.mem_append_left _ (List.mem_append_right _ h))) hown hK hP 0 rfl rfl 9 (by decide) (hts (.fieldLink RX8 176 "BarometerClubModel" "length" "I") (List.mem_of_getElem? (i := 2) rfl)) (fun _ h9 => h9) rfl dX8_append_26 ?_
    refine lv_dup_x1 hx hb dX8_append_29 rfl rfl ?_
    refine lv_iconst (v := (1 : Int32)) hx hb dX8_append_30 (by decide) ?_
    refine lv_iadd hx hb dX8_append_31 ?_
    refine va_put (D := D) (ci := 6) (v := .int (mH + (1 : Int32))) (ty := .int) (C := RX8) (T := TX8) (N := 19) hx hb hts (fun _ h => List.mem_cons_of_mem _ (List.mem_append_left _ (List.mem_append_right _ h))) tyX8 tyX8_ok nmX8 hown hK hP hD hS 0 rfl rfl 9 (by decide) (hts (.fieldLink RX8 176 "BarometerClubModel" "length" "I") (List.mem_of_getElem? (i := 2) rfl)) (fun _ h9 => h9) rfl (by decide +kernel) rfl rfl (Nat.le_of_ble_eq_true rfl) dX8_append_32 (fun H locs hP hD hS => ?_)
    have hP : va_P D vwC7 [(aM, .inr (6, [.ref aMn, .ref aMt, .ref aMk, .int mU, .ref aMs, .int mB, .ref aMl, .int mI, .ref aMx, .int (mH + (1 : Int32)), .int mQ, .int mW, .ref aMd, .int mF, .int mR, .int mD, .int mJ, .int mA, .int (0 : Int32)])), (aMx, .inl (K 11, 60, .inl nX))] H := hP
    have hD : va_D A [(aM, .inr (6, [.ref aMn, .ref aMt, .ref aMk, .int mU, .ref aMs, .int mB, .ref aMl, .int mI, .ref aMx, .int (mH + (1 : Int32)), .int mQ, .int mW, .ref aMd, .int mF, .int mR, .int mD, .int mJ, .int mA, .int (0 : Int32)])), (aMx, .inl (K 11, 60, .inl nX))] := hD
    refine lv_iload_n hx hb dX8_append_35 rfl (lv_at hl 1 rfl) ?_
    obtain ⟨g2, hF⟩ := oG hF
    refine va_cast hx hb hK hP hD hS 1 11 rfl rfl (inB_in g2) dX8_append_36 (fun H locs hP hD hS => ?_)
    have hP : va_P D vwC7 [(aM, .inr (6, [.ref aMn, .ref aMt, .ref aMk, .int mU, .ref aMs, .int mB, .ref aMl, .int mI, .ref aMx, .int (mH + (1 : Int32)), .int mQ, .int mW, .ref aMd, .int mF, .int mR, .int mD, .int mJ, .int mA, .int (0 : Int32)])), (aMx, .inl (K 11, 60, .inl (upd nX mH.toNatClampNeg (vp_nar .char p1))))] H := hP
    have hD : va_D A [(aM, .inr (6, [.ref aMn, .ref aMt, .ref aMk, .int mU, .ref aMs, .int mB, .ref aMl, .int mI, .ref aMx, .int (mH + (1 : Int32)), .int mQ, .int mW, .ref aMd, .int mF, .int mR, .int mD, .int mJ, .int mA, .int (0 : Int32)])), (aMx, .inl (K 11, 60, .inl (upd nX mH.toNatClampNeg (vp_nar .char p1))))] := hD
    refine lv_aload_n hx hb dX8_append_37 rfl (lv_at hl 0 rfl) ?_
    refine va_get (D := D) (ci := 6) (v := .int (mH + (1 : Int32))) (C := RX8) (T := TX8) (N := 19) hx hb hts (fun _ h => List.mem_cons_of_mem _ (List.mem_append_left _ (List.mem_append_right _ h))) hown hK hP 0 rfl rfl 9 (by decide) (hts (.fieldLink RX8 176 "BarometerClubModel" "length" "I") (List.mem_of_getElem? (i := 2) rfl)) (fun _ h9 => h9) rfl dX8_append_38 ?_
    exact fin_i (u := (mH + (1 : Int32), (mH + (1 : Int32), (0 : Int32), upd nX mH.toNatClampNeg (vp_nar .char p1)))) hF hx hb hr hlocks hK hP hD hS (Nat.le_of_ble_eq_true rfl) (Nat.le_of_ble_eq_true rfl) dX8_append_41
  · have hF := oT c1 hF
    refine lv_aload_n hx hb dX8_append_14 rfl (lv_at hl 0 rfl) ?_
    refine lv_iconst (v := (1 : Int32)) hx hb dX8_append_15 (by decide) ?_
    obtain ⟨v3, hv3, hF⟩ := oB hF
    refine call_i (wr := [(aMx, .inl (K 11, 60, .inl nX))]) (wn := [(aM, .inr (6, [.ref aMn, .ref aMt, .ref aMk, .int mU, .ref aMs, .int mB, .ref aMl, .int mI, .ref aMx, .int mH, .int mQ, .int mW, .ref aMd, .int mF, .int mR, .int mD, .int mJ, .int mA, .int v3.2])), (aMx, .inl (K 11, 60, .inl nX))]) (va_runV (As := [.int (1 : Int32)]) (rest := []) ⟨hx, hb, hml, hown, hts⟩ (c_X8_raises l D K aM aMn aMt aMk aMs aMl aMx aMd mU mB mI mH mQ mW mF mR mD mJ mA (0 : Int32) (1 : Int32) v3 hv3 H.size) (cwV 1 hts gX8_append_X8_raises rfl rfl rfl (by decide +kernel) ⟨(Nat.le_of_ble_eq_true rfl), (Nat.le_of_ble_eq_true rfl)⟩) (prV hE hK hP hD hS hA [0] rfl rfl 6 0 rfl rfl rfl) rfl rfl hl.1 rfl (lv_room (Nat.le_of_ble_eq_true rfl)) dX8_append_16 ⟨(Nat.le_of_ble_eq_true rfl), (Nat.le_of_ble_eq_true rfl)⟩) hP hD hS hA [0] [1] [1, 0] rfl rfl rfl (by decide) rfl rfl (fun H locs hP hD hS => ?_)
    exact fin_i (u := (v3.1, (mH, v3.2, nX))) hF hx hb hr hlocks hK hP hD hS (Nat.le_of_ble_eq_true rfl) (Nat.le_of_ble_eq_true rfl) dX8_append_19
abbrev RM_X8_takes : Room := { frames := 0, cells := 0, slots := 0, locals := 0 }
abbrev MC_X8_takes : Nat := 0
abbrev MS_X8_takes : Nat := 0
abbrev wf_X8_takes (K : Nat → ClassId) (aM : Nat) (aMn : Nat) (aMt : Nat) (aMk : Nat) (aMs : Nat) (aMl : Nat) (aMx : Nat) (aMd : Nat) (mU : Int32) (mB : Int32) (mI : Int32) (mH : Int32) (mW : Int32) (mF : Int32) (mR : Int32) (mD : Int32) (mJ : Int32) (mA : Int32) (mT : Int32) (nX : Nat → Int32) (v : Int32 × Int32) : va_W := [(aM, .inr (6, [.ref aMn, .ref aMt, .ref aMk, .int mU, .ref aMs, .int mB, .ref aMl, .int mI, .ref aMx, .int mH, .int v.2, .int mW, .ref aMd, .int mF, .int mR, .int mD, .int mJ, .int mA, .int mT])), (aMx, .inl (K 11, 60, .inl nX))]
set_option maxHeartbeats 4000000 in
set_option maxRecDepth 100000 in
theorem c_X8_takes (l : Launch) (D : va_G) (K : Nat → ClassId) (aM : Nat) (aMn : Nat) (aMt : Nat) (aMk : Nat) (aMs : Nat) (aMl : Nat) (aMx : Nat) (aMd : Nat) (mU : Int32) (mB : Int32) (mI : Int32) (mH : Int32) (mQ : Int32) (mW : Int32) (mF : Int32) (mR : Int32) (mD : Int32) (mJ : Int32) (mA : Int32) (mT : Int32) (nX : Nat → Int32) (p1 : Int32) (v : Int32 × Int32) (hF : f_X8_takes mH mQ nX p1 = some v) (sz : Nat) :
    (Met l yX8_takes wsX8_takes RM_X8_takes (PC D (TY K) [(aM, .inr (6, [.ref aMn, .ref aMt, .ref aMk, .int mU, .ref aMs, .int mB, .ref aMl, .int mI, .ref aMx, .int mH, .int mQ, .int mW, .ref aMd, .int mF, .int mR, .int mD, .int mJ, .int mA, .int mT])), (aMx, .inl (K 11, 60, .inl nX))] [.ref aM, .int p1] sz) (QI D (TY K) (wf_X8_takes K aM aMn aMt aMk aMs aMl aMx aMd mU mB mI mH mW mF mR mD mJ mA mT nX) v (va_A [(aM, .inr (6, [.ref aMn, .ref aMt, .ref aMk, .int mU, .ref aMs, .int mB, .ref aMl, .int mI, .ref aMx, .int mH, .int mQ, .int mW, .ref aMd, .int mF, .int mR, .int mD, .int mJ, .int mA, .int mT])), (aMx, .inl (K 11, 60, .inl nX))] sz)) MC_X8_takes MS_X8_takes (va_A [(aM, .inr (6, [.ref aMn, .ref aMt, .ref aMk, .int mU, .ref aMs, .int mB, .ref aMl, .int mI, .ref aMx, .int mH, .int mQ, .int mW, .ref aMd, .int mF, .int mR, .int mD, .int mJ, .int mA, .int mT])), (aMx, .inl (K 11, 60, .inl nX))] sz)) := by
  refine pro (Qf := fun A => QI D (TY K) (wf_X8_takes K aM aMn aMt aMk aMs aMl aMx aMd mU mB mI mH mW mF mR mD mJ mA mT nX) v A) (cc := cX8_takes) (maxL := 2) (ret := (some .boolean)) (by decide +kernel) rfl (Nat.le_of_ble_eq_true rfl) ?_
  intro p e s m args below meth c hx hb hr hts hown hlocks hml hini hK A hA hE hP hD hS ls hl
  have hown : s.vm.findClass RX8 = some m.cls := hown
  have hl : lv_has ls 2 [(0, .ref aM), (1, .int p1)] := hl
  rw [f_X8_takes] at hF
  refine lv_aload_n hx hb dX8_takes_0 rfl (lv_at hl 0 rfl) ?_
  refine va_get (D := D) (ci := 6) (v := .int mQ) (C := RX8) (T := TX8) (N := 19) hx hb hts (fun _ h => List.mem_cons_of_mem _ (List.mem_append_left _ (List.mem_append_right _ h))) hown hK hP 0 rfl rfl 10 (by decide) (hts (.fieldLink RX8 179 "BarometerClubModel" "at" "I") (List.mem_of_getElem? (i := 1) rfl)) (fun _ h9 => h9) rfl dX8_takes_1 ?_
  refine lv_aload_n hx hb dX8_takes_4 rfl (lv_at hl 0 rfl) ?_
  refine va_get (D := D) (ci := 6) (v := .int mH) (C := RX8) (T := TX8) (N := 19) hx hb hts (fun _ h => List.mem_cons_of_mem _ (List.mem_append_left _ (List.mem_append_right _ h))) hown hK hP 0 rfl rfl 9 (by decide) (hts (.fieldLink RX8 176 "BarometerClubModel" "length" "I") (List.mem_of_getElem? (i := 2) rfl)) (fun _ h9 => h9) rfl dX8_takes_5 ?_
  refine lv_icmp_eq (tgt := 24) hx hb dX8_takes_8 (by decide) (fun c1 => ?_) (fun c1 => ?_)
  · have hF := oT c1 hF
    refine lv_iconst (v := (0 : Int32)) hx hb dX8_takes_24 (by decide) ?_
    exact fin_z (u := ((0 : Int32), mQ)) hF (okN_n (ty := .boolean) (x := (0 : Int32)) (by decide)) hx hb hr hlocks hK hP hD hS (Nat.le_of_ble_eq_true rfl) (Nat.le_of_ble_eq_true rfl) dX8_takes_25
  · have hF := oF c1 hF
    refine lv_aload_n hx hb dX8_takes_11 rfl (lv_at hl 0 rfl) ?_
    refine va_get (D := D) (ci := 6) (v := .ref aMx) (C := RX8) (T := TX8) (N := 19) hx hb hts (fun _ h => List.mem_cons_of_mem _ (List.mem_append_left _ (List.mem_append_right _ h))) hown hK hP 0 rfl rfl 8 (by decide) (hts (.fieldLink RX8 26 "BarometerClubModel" "text" "[C") (List.mem_of_getElem? (i := 3) rfl)) (fun _ h9 => h9) rfl dX8_takes_12 ?_
    refine lv_aload_n hx hb dX8_takes_15 rfl (lv_at hl 0 rfl) ?_
    refine va_get (D := D) (ci := 6) (v := .int mQ) (C := RX8) (T := TX8) (N := 19) hx hb hts (fun _ h => List.mem_cons_of_mem _ (List.mem_append_left _ (List.mem_append_right _ h))) hown hK hP 0 rfl rfl 10 (by decide) (hts (.fieldLink RX8 179 "BarometerClubModel" "at" "I") (List.mem_of_getElem? (i := 1) rfl)) (fun _ h9 => h9) rfl dX8_takes_16 ?_
    obtain ⟨g2, hF⟩ := oG hF
    refine va_cald hx hb hK hP 1 11 rfl rfl (inB_in g2) dX8_takes_19 ?_
    refine lv_iload_n hx hb dX8_takes_20 rfl (lv_at hl 1 rfl) ?_
    refine lv_icmp_eq (tgt := 26) hx hb dX8_takes_21 (by decide) (fun c3 => ?_) (fun c3 => ?_)
    · have hF := oT c3 hF
      refine lv_aload_n hx hb dX8_takes_26 rfl (lv_at hl 0 rfl) ?_
      refine lv_dup hx hb dX8_takes_27 rfl ?_
      refine va_get (D := D) (ci := 6) (v := .int mQ) (C := RX8) (T := TX8) (N := 19) hx hb hts (fun _ h => List.mem_cons_of_mem _ (List.mem_append_left _ (List.mem_append_right _ h))) hown hK hP 0 rfl rfl 10 (by decide) (hts (.fieldLink RX8 179 "BarometerClubModel" "at" "I") (List.mem_of_getElem? (i := 1) rfl)) (fun _ h9 => h9) rfl dX8_takes_28 ?_
      refine lv_iconst (v := (1 : Int32)) hx hb dX8_takes_31 (by decide) ?_
      refine lv_iadd hx hb dX8_takes_32 ?_
      refine va_put (D := D) (ci := 6) (v := .int (mQ + (1 : Int32))) (ty := .int) (C := RX8) (T := TX8) (N := 19) hx hb hts (fun _ h => List.mem_cons_of_mem _ (List.mem_append_left _ (List.mem_append_right _ h))) tyX8 tyX8_ok nmX8 hown hK hP hD hS 0 rfl rfl 10 (by decide) (hts (.fieldLink RX8 179 "BarometerClubModel" "at" "I") (List.mem_of_getElem? (i := 1) rfl)) (fun _ h9 => h9) rfl (by decide +kernel) rfl rfl (Nat.le_of_ble_eq_true rfl) dX8_takes_33 (fun H locs hP hD hS => ?_)
      have hP : va_P D vwC7 [(aM, .inr (6, [.ref aMn, .ref aMt, .ref aMk, .int mU, .ref aMs, .int mB, .ref aMl, .int mI, .ref aMx, .int mH, .int (mQ + (1 : Int32)), .int mW, .ref aMd, .int mF, .int mR, .int mD, .int mJ, .int mA, .int mT])), (aMx, .inl (K 11, 60, .inl nX))] H := hP
      have hD : va_D A [(aM, .inr (6, [.ref aMn, .ref aMt, .ref aMk, .int mU, .ref aMs, .int mB, .ref aMl, .int mI, .ref aMx, .int mH, .int (mQ + (1 : Int32)), .int mW, .ref aMd, .int mF, .int mR, .int mD, .int mJ, .int mA, .int mT])), (aMx, .inl (K 11, 60, .inl nX))] := hD
      refine lv_iconst (v := (1 : Int32)) hx hb dX8_takes_36 (by decide) ?_
      exact fin_z (u := ((1 : Int32), mQ + (1 : Int32))) hF (okN_n (ty := .boolean) (x := (1 : Int32)) (by decide)) hx hb hr hlocks hK hP hD hS (Nat.le_of_ble_eq_true rfl) (Nat.le_of_ble_eq_true rfl) dX8_takes_37
    · have hF := oF c3 hF
      refine lv_iconst (v := (0 : Int32)) hx hb dX8_takes_24 (by decide) ?_
      exact fin_z (u := ((0 : Int32), mQ)) hF (okN_n (ty := .boolean) (x := (0 : Int32)) (by decide)) hx hb hr hlocks hK hP hD hS (Nat.le_of_ble_eq_true rfl) (Nat.le_of_ble_eq_true rfl) dX8_takes_25
