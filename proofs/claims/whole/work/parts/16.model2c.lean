abbrev RM_X8_bottles : Room := { frames := 3, cells := 0, slots := 0, locals := 64 }
abbrev MC_X8_bottles : Nat := 0
abbrev MS_X8_bottles : Nat := 0
abbrev wf_X8_bottles (K : Nat → ClassId) (aM : Nat) (aMn : Nat) (aMt : Nat) (aMk : Nat) (aMs : Nat) (aMl : Nat) (aMx : Nat) (aMd : Nat) (mU : Int32) (mB : Int32) (mI : Int32) (mH : Int32) (mQ : Int32) (mW : Int32) (mF : Int32) (mT : Int32) (v : Int32 × Int32 × Int32 × Int32 × Int32 × (Nat → Int32)) : va_W := [(aM, .inr (6, [.ref aMn, .ref aMt, .ref aMk, .int mU, .ref aMs, .int mB, .ref aMl, .int mI, .ref aMx, .int mH, .int mQ, .int mW, .ref aMd, .int mF, .int v.2.1, .int v.2.2.1, .int v.2.2.2.1, .int v.2.2.2.2.1, .int mT])), (aMn, .inl (K 6, 55, .inl v.2.2.2.2.2))]
set_option maxHeartbeats 4000000 in
set_option maxRecDepth 100000 in
theorem c_X8_bottles (l : Launch) (D : va_G) (K : Nat → ClassId) (aM : Nat) (aMn : Nat) (aMt : Nat) (aMk : Nat) (aMs : Nat) (aMl : Nat) (aMx : Nat) (aMd : Nat) (mU : Int32) (mB : Int32) (mI : Int32) (mH : Int32) (mQ : Int32) (mW : Int32) (mF : Int32) (mR : Int32) (mD : Int32) (mJ : Int32) (mA : Int32) (mT : Int32) (nN : Nat → Int32) (p1 : Int32) (v : Int32 × Int32 × Int32 × Int32 × Int32 × (Nat → Int32)) (hF : f_X8_bottles mR mD mJ mA nN p1 = some v) (sz : Nat) :
    (Met l yX8_bottles wsX8_bottles RM_X8_bottles (PC D (TY K) [(aM, .inr (6, [.ref aMn, .ref aMt, .ref aMk, .int mU, .ref aMs, .int mB, .ref aMl, .int mI, .ref aMx, .int mH, .int mQ, .int mW, .ref aMd, .int mF, .int mR, .int mD, .int mJ, .int mA, .int mT])), (aMn, .inl (K 6, 55, .inl nN))] [.ref aM, .int p1] sz) (QI D (TY K) (wf_X8_bottles K aM aMn aMt aMk aMs aMl aMx aMd mU mB mI mH mQ mW mF mT) v (va_A [(aM, .inr (6, [.ref aMn, .ref aMt, .ref aMk, .int mU, .ref aMs, .int mB, .ref aMl, .int mI, .ref aMx, .int mH, .int mQ, .int mW, .ref aMd, .int mF, .int mR, .int mD, .int mJ, .int mA, .int mT])), (aMn, .inl (K 6, 55, .inl nN))] sz)) MC_X8_bottles MS_X8_bottles (va_A [(aM, .inr (6, [.ref aMn, .ref aMt, .ref aMk, .int mU, .ref aMs, .int mB, .ref aMl, .int mI, .ref aMx, .int mH, .int mQ, .int mW, .ref aMd, .int mF, .int mR, .int mD, .int mJ, .int mA, .int mT])), (aMn, .inl (K 6, 55, .inl nN))] sz)) := by
  refine pro (Qf := fun A => QI D (TY K) (wf_X8_bottles K aM aMn aMt aMk aMs aMl aMx aMd mU mB mI mH mQ mW mF mT) v A) (cc := cX8_bottles) (maxL := 2) (ret := (some .boolean)) (by decide +kernel) rfl (Nat.le_of_ble_eq_true rfl) ?_
  intro p e s m args below meth c hx hb hr hts hown hlocks hml hini hK A hA hE hP hD hS ls hl
  have hown : s.vm.findClass RX8 = some m.cls := hown
  have hl : lv_has ls 2 [(0, .ref aM), (1, .int p1)] := hl
  rw [f_X8_bottles] at hF
  refine lv_aload_n hx hb dX8_bottles_0 rfl (lv_at hl 0 rfl) ?_
  refine lv_iload_n hx hb dX8_bottles_1 rfl (lv_at hl 1 rfl) ?_
  obtain ⟨v1, hv1, hF⟩ := oB hF
  refine call_i (wr := []) (wn := [(aM, .inr (6, [.ref aMn, .ref aMt, .ref aMk, .int mU, .ref aMs, .int mB, .ref aMl, .int mI, .ref aMx, .int mH, .int mQ, .int mW, .ref aMd, .int mF, .int v1.2.1, .int v1.2.2.1, .int v1.2.2.2, .int mA, .int mT])), (aMn, .inl (K 6, 55, .inl nN))]) (va_runV (As := [.int p1]) (rest := []) ⟨hx, hb, hml, hown, hts⟩ (c_X8_isThere l D K aM aMn aMt aMk aMs aMl aMx aMd mU mB mI mH mQ mW mF mR mD mJ mA mT nN p1 v1 hv1 s.heap.size) (cwV 1 hts gX8_bottles_X8_isThere rfl rfl rfl (by decide +kernel) ⟨(Nat.le_of_ble_eq_true rfl), (Nat.le_of_ble_eq_true rfl)⟩) (prV hE hK hP hD hS hA [0, 1] rfl rfl 6 0 rfl rfl rfl) rfl rfl hl.1 rfl (lv_room (Nat.le_of_ble_eq_true rfl)) dX8_bottles_2 ⟨(Nat.le_of_ble_eq_true rfl), (Nat.le_of_ble_eq_true rfl)⟩) hP hD hS hA [0, 1] [] [0, 1] rfl rfl rfl (by decide) rfl rfl (fun H locs hP hD hS => ?_)
  refine lv_if_ne (tgt := 10) hx hb dX8_bottles_5 (by decide) (fun c2 => ?_) (fun c2 => ?_)
  · have hF := oF c2 hF
    refine lv_aload_n hx hb dX8_bottles_10 rfl (lv_at hl 0 rfl) ?_
    refine va_get (D := D) (ci := 6) (v := .ref aMn) (C := RX8) (T := TX8) (N := 19) hx hb hts (fun _ h => List.mem_cons_of_mem _ (List.mem_append_left _ (List.mem_append_right _ h))) hown hK hP 0 rfl rfl 0 (by decide) (hts (.fieldLink RX8 9 "BarometerClubModel" "now" "[I") (List.mem_of_getElem? (i := 1) rfl)) (fun _ h9 => h9) rfl dX8_bottles_11 ?_
    refine lv_iconst (v := (3 : Int32)) hx hb dX8_bottles_14 (by decide) ?_
    refine va_iald hx hb hK hP 1 6 rfl rfl (inB_in (by decide : inB (3 : Int32) 55 = true)) dX8_bottles_15 ?_
    refine lv_if_ne (tgt := 32) hx hb dX8_bottles_16 (by decide) (fun c3 => ?_) (fun c3 => ?_)
    · have hF := oF c3 hF
      refine lv_aload_n hx hb dX8_bottles_32 rfl (lv_at hl 0 rfl) ?_
      refine lv_iload_n hx hb dX8_bottles_33 rfl (lv_at hl 1 rfl) ?_
      refine lv_iconst (v := (5 : Int32)) hx hb dX8_bottles_34 (by decide) ?_
      obtain ⟨v4, hv4, hF⟩ := oB hF
      refine call_i (wr := []) (wn := [(aM, .inr (6, [.ref aMn, .ref aMt, .ref aMk, .int mU, .ref aMs, .int mB, .ref aMl, .int mI, .ref aMx, .int mH, .int mQ, .int mW, .ref aMd, .int mF, .int v1.2.1, .int v1.2.2.1, .int v1.2.2.2, .int mA, .int mT])), (aMn, .inl (K 6, 55, .inl nN))]) (va_runV (As := [.int p1, .int (5 : Int32)]) (rest := []) ⟨hx, hb, hml, hown, hts⟩ (c_X8_of l D K aM aMn aMt aMk aMs aMl aMx aMd mU mB mI mH mQ mW mF v1.2.1 v1.2.2.1 v1.2.2.2 mA mT nN p1 (5 : Int32) v4 hv4 H.size) (cwV 2 hts gX8_bottles_X8_of rfl rfl rfl (by decide +kernel) ⟨(Nat.le_of_ble_eq_true rfl), (Nat.le_of_ble_eq_true rfl)⟩) (prV hE hK hP hD hS hA [0, 1] rfl rfl 6 0 rfl rfl rfl) rfl rfl hl.1 rfl (lv_room (Nat.le_of_ble_eq_true rfl)) dX8_bottles_35 ⟨(Nat.le_of_ble_eq_true rfl), (Nat.le_of_ble_eq_true rfl)⟩) hP hD hS hA [0, 1] [] [0, 1] rfl rfl rfl (by decide) rfl rfl (fun H locs hP hD hS => ?_)
      refine lv_iconst (v := (3 : Int32)) hx hb dX8_bottles_38 (by decide) ?_
      refine lv_icmp_ne (tgt := 50) hx hb dX8_bottles_39 (by decide) (fun c5 => ?_) (fun c5 => ?_)
      · have hF := oF c5 hF
        refine lv_aload_n hx hb dX8_bottles_50 rfl (lv_at hl 0 rfl) ?_
        refine va_get (D := D) (ci := 6) (v := .ref aMn) (C := RX8) (T := TX8) (N := 19) hx hb hts (fun _ h => List.mem_cons_of_mem _ (List.mem_append_left _ (List.mem_append_right _ h))) hown hK hP 0 rfl rfl 0 (by decide) (hts (.fieldLink RX8 9 "BarometerClubModel" "now" "[I") (List.mem_of_getElem? (i := 1) rfl)) (fun _ h9 => h9) rfl dX8_bottles_51 ?_
        refine lv_iconst (v := (3 : Int32)) hx hb dX8_bottles_54 (by decide) ?_
        refine lv_iconst (v := (0 : Int32)) hx hb dX8_bottles_55 (by decide) ?_
        refine va_iast hx hb hK hP hD hS 1 6 rfl rfl (inB_in (by decide : inB (3 : Int32) 55 = true)) dX8_bottles_56 (fun H locs hP hD hS => ?_)
        have hP : va_P D vwC7 [(aM, .inr (6, [.ref aMn, .ref aMt, .ref aMk, .int mU, .ref aMs, .int mB, .ref aMl, .int mI, .ref aMx, .int mH, .int mQ, .int mW, .ref aMd, .int mF, .int v1.2.1, .int v1.2.2.1, .int v1.2.2.2, .int mA, .int mT])), (aMn, .inl (K 6, 55, .inl (upd nN (3 : Int32).toNatClampNeg (0 : Int32))))] H := hP
        have hD : va_D A [(aM, .inr (6, [.ref aMn, .ref aMt, .ref aMk, .int mU, .ref aMs, .int mB, .ref aMl, .int mI, .ref aMx, .int mH, .int mQ, .int mW, .ref aMd, .int mF, .int v1.2.1, .int v1.2.2.1, .int v1.2.2.2, .int mA, .int mT])), (aMn, .inl (K 6, 55, .inl (upd nN (3 : Int32).toNatClampNeg (0 : Int32))))] := hD
        refine lv_aload_n hx hb dX8_bottles_57 rfl (lv_at hl 0 rfl) ?_
        refine lv_iload_n hx hb dX8_bottles_58 rfl (lv_at hl 1 rfl) ?_
        refine lv_iconst (v := (5 : Int32)) hx hb dX8_bottles_59 (by decide) ?_
        refine lv_aload_n hx hb dX8_bottles_60 rfl (lv_at hl 0 rfl) ?_
        refine lv_iload_n hx hb dX8_bottles_61 rfl (lv_at hl 1 rfl) ?_
        refine lv_iconst (v := (5 : Int32)) hx hb dX8_bottles_62 (by decide) ?_
        obtain ⟨v6, hv6, hF⟩ := oB hF
        refine call_i (wr := []) (wn := [(aM, .inr (6, [.ref aMn, .ref aMt, .ref aMk, .int mU, .ref aMs, .int mB, .ref aMl, .int mI, .ref aMx, .int mH, .int mQ, .int mW, .ref aMd, .int mF, .int v1.2.1, .int v1.2.2.1, .int v1.2.2.2, .int mA, .int mT])), (aMn, .inl (K 6, 55, .inl (upd nN (3 : Int32).toNatClampNeg (0 : Int32))))]) (va_runV (As := [.int p1, .int (5 : Int32)]) (rest := [.int (5 : Int32), .int p1, .ref aM]) ⟨hx, hb, hml, hown, hts⟩ (c_X8_of l D K aM aMn aMt aMk aMs aMl aMx aMd mU mB mI mH mQ mW mF v1.2.1 v1.2.2.1 v1.2.2.2 mA mT (upd nN (3 : Int32).toNatClampNeg (0 : Int32)) p1 (5 : Int32) v6 hv6 H.size) (cwV 2 hts gX8_bottles_X8_of rfl rfl rfl (by decide +kernel) ⟨(Nat.le_of_ble_eq_true rfl), (Nat.le_of_ble_eq_true rfl)⟩) (prV hE hK hP hD hS hA [0, 1] rfl rfl 6 0 rfl rfl rfl) rfl rfl hl.1 rfl (lv_room (Nat.le_of_ble_eq_true rfl)) dX8_bottles_63 ⟨(Nat.le_of_ble_eq_true rfl), (Nat.le_of_ble_eq_true rfl)⟩) hP hD hS hA [0, 1] [] [0, 1] rfl rfl rfl (by decide) rfl rfl (fun H locs hP hD hS => ?_)
        refine lv_iconst (v := (1 : Int32)) hx hb dX8_bottles_66 (by decide) ?_
        refine lv_iadd hx hb dX8_bottles_67 ?_
        obtain ⟨v7, hv7, hF⟩ := oB hF
        refine call_v (wr := []) (wn := [(aM, .inr (6, [.ref aMn, .ref aMt, .ref aMk, .int mU, .ref aMs, .int mB, .ref aMl, .int mI, .ref aMx, .int mH, .int mQ, .int mW, .ref aMd, .int mF, .int v1.2.1, .int v1.2.2.1, .int v1.2.2.2, .int mA, .int mT])), (aMn, .inl (K 6, 55, .inl v7))]) (va_runV (As := [.int p1, .int (5 : Int32), .int (v6.1 + (1 : Int32))]) (rest := []) ⟨hx, hb, hml, hown, hts⟩ (c_X8_sets l D K aM aMn aMt aMk aMs aMl aMx aMd mU mB mI mH mQ mW mF v1.2.1 v1.2.2.1 v1.2.2.2 mA mT (upd nN (3 : Int32).toNatClampNeg (0 : Int32)) p1 (5 : Int32) (v6.1 + (1 : Int32)) v7 hv7 H.size) (cwV 3 hts gX8_bottles_X8_sets rfl rfl rfl (by decide +kernel) ⟨(Nat.le_of_ble_eq_true rfl), (Nat.le_of_ble_eq_true rfl)⟩) (prV hE hK hP hD hS hA [0, 1] rfl rfl 6 0 rfl rfl rfl) rfl rfl hl.1 rfl (lv_room (Nat.le_of_ble_eq_true rfl)) dX8_bottles_68 ⟨(Nat.le_of_ble_eq_true rfl), (Nat.le_of_ble_eq_true rfl)⟩) hP hD hS hA [0, 1] [] [0, 1] rfl rfl rfl (by decide) rfl rfl (fun H locs hP hD hS => ?_)
        refine lv_aload_n hx hb dX8_bottles_71 rfl (lv_at hl 0 rfl) ?_
        refine lv_aload_n hx hb dX8_bottles_72 rfl (lv_at hl 0 rfl) ?_
        refine lv_iload_n hx hb dX8_bottles_73 rfl (lv_at hl 1 rfl) ?_
        refine lv_iconst (v := (5 : Int32)) hx hb dX8_bottles_74 (by decide) ?_
        obtain ⟨v8, hv8, hF⟩ := oB hF
        refine call_i (wr := []) (wn := [(aM, .inr (6, [.ref aMn, .ref aMt, .ref aMk, .int mU, .ref aMs, .int mB, .ref aMl, .int mI, .ref aMx, .int mH, .int mQ, .int mW, .ref aMd, .int mF, .int v1.2.1, .int v1.2.2.1, .int v1.2.2.2, .int mA, .int mT])), (aMn, .inl (K 6, 55, .inl v7))]) (va_runV (As := [.int p1, .int (5 : Int32)]) (rest := [.ref aM]) ⟨hx, hb, hml, hown, hts⟩ (c_X8_of l D K aM aMn aMt aMk aMs aMl aMx aMd mU mB mI mH mQ mW mF v1.2.1 v1.2.2.1 v1.2.2.2 mA mT v7 p1 (5 : Int32) v8 hv8 H.size) (cwV 2 hts gX8_bottles_X8_of rfl rfl rfl (by decide +kernel) ⟨(Nat.le_of_ble_eq_true rfl), (Nat.le_of_ble_eq_true rfl)⟩) (prV hE hK hP hD hS hA [0, 1] rfl rfl 6 0 rfl rfl rfl) rfl rfl hl.1 rfl (lv_room (Nat.le_of_ble_eq_true rfl)) dX8_bottles_75 ⟨(Nat.le_of_ble_eq_true rfl), (Nat.le_of_ble_eq_true rfl)⟩) hP hD hS hA [0, 1] [] [0, 1] rfl rfl rfl (by decide) rfl rfl (fun H locs hP hD hS => ?_)
        obtain ⟨v9, hv9, hF⟩ := oB hF
        refine call_i (wr := [(aMn, .inl (K 6, 55, .inl v7))]) (wn := [(aM, .inr (6, [.ref aMn, .ref aMt, .ref aMk, .int mU, .ref aMs, .int mB, .ref aMl, .int mI, .ref aMx, .int mH, .int mQ, .int mW, .ref aMd, .int mF, .int v1.2.1, .int v1.2.2.1, .int v1.2.2.2, .int v9.2, .int mT])), (aMn, .inl (K 6, 55, .inl v7))]) (va_runV (As := [.int v8.1]) (rest := []) ⟨hx, hb, hml, hown, hts⟩ (c_X8_does l D K aM aMn aMt aMk aMs aMl aMx aMd mU mB mI mH mQ mW mF v1.2.1 v1.2.2.1 v1.2.2.2 mA mT v8.1 v9 hv9 H.size) (cwV 1 hts gX8_bottles_X8_does rfl rfl rfl (by decide +kernel) ⟨(Nat.le_of_ble_eq_true rfl), (Nat.le_of_ble_eq_true rfl)⟩) (prV hE hK hP hD hS hA [0] rfl rfl 6 0 rfl rfl rfl) rfl rfl hl.1 rfl (lv_room (Nat.le_of_ble_eq_true rfl)) dX8_bottles_78 ⟨(Nat.le_of_ble_eq_true rfl), (Nat.le_of_ble_eq_true rfl)⟩) hP hD hS hA [0] [1] [1, 0] rfl rfl rfl (by decide) rfl rfl (fun H locs hP hD hS => ?_)
        obtain ⟨g10, hF⟩ := oG hF
        exact fin_z (u := (v9.1, (v1.2.1, v1.2.2.1, v1.2.2.2, v9.2, v7))) hF (okN_n g10) hx hb hr hlocks hK hP hD hS (Nat.le_of_ble_eq_true rfl) (Nat.le_of_ble_eq_true rfl) dX8_bottles_81
      · have hF := oT c5 hF
        refine lv_aload_n hx hb dX8_bottles_42 rfl (lv_at hl 0 rfl) ?_
        refine lv_bipush (v := (11 : Int32)) hx hb dX8_bottles_43 (by decide) ?_
        refine lv_iconst (v := (3 : Int32)) hx hb dX8_bottles_45 (by decide) ?_
        obtain ⟨v11, hv11, hF⟩ := oB hF
        refine call_i (wr := [(aMn, .inl (K 6, 55, .inl nN))]) (wn := [(aM, .inr (6, [.ref aMn, .ref aMt, .ref aMk, .int mU, .ref aMs, .int mB, .ref aMl, .int mI, .ref aMx, .int mH, .int mQ, .int mW, .ref aMd, .int mF, .int v11.2.1, .int v11.2.2.1, .int v11.2.2.2, .int mA, .int mT])), (aMn, .inl (K 6, 55, .inl nN))]) (va_runV (As := [.int (11 : Int32), .int (3 : Int32)]) (rest := []) ⟨hx, hb, hml, hown, hts⟩ (c_X8_refuses l D K aM aMn aMt aMk aMs aMl aMx aMd mU mB mI mH mQ mW mF v1.2.1 v1.2.2.1 v1.2.2.2 mA mT (11 : Int32) (3 : Int32) v11 hv11 H.size) (cwV 2 hts gX8_bottles_X8_refuses rfl rfl rfl (by decide +kernel) ⟨(Nat.le_of_ble_eq_true rfl), (Nat.le_of_ble_eq_true rfl)⟩) (prV hE hK hP hD hS hA [0] rfl rfl 6 0 rfl rfl rfl) rfl rfl hl.1 rfl (lv_room (Nat.le_of_ble_eq_true rfl)) dX8_bottles_46 ⟨(Nat.le_of_ble_eq_true rfl), (Nat.le_of_ble_eq_true rfl)⟩) hP hD hS hA [0] [1] [1, 0] rfl rfl rfl (by decide) rfl rfl (fun H locs hP hD hS => ?_)
        obtain ⟨g12, hF⟩ := oG hF
        exact fin_z (u := (v11.1, (v11.2.1, v11.2.2.1, v11.2.2.2, mA, nN))) hF (okN_n g12) hx hb hr hlocks hK hP hD hS (Nat.le_of_ble_eq_true rfl) (Nat.le_of_ble_eq_true rfl) dX8_bottles_49
    · have hF := oT c3 hF
      refine lv_aload_n hx hb dX8_bottles_19 rfl (lv_at hl 0 rfl) ?_
      refine lv_bipush (v := (10 : Int32)) hx hb dX8_bottles_20 (by decide) ?_
      refine lv_aload_n hx hb dX8_bottles_22 rfl (lv_at hl 0 rfl) ?_
      refine va_get (D := D) (ci := 6) (v := .ref aMn) (C := RX8) (T := TX8) (N := 19) hx hb hts (fun _ h => List.mem_cons_of_mem _ (List.mem_append_left _ (List.mem_append_right _ h))) hown hK hP 0 rfl rfl 0 (by decide) (hts (.fieldLink RX8 9 "BarometerClubModel" "now" "[I") (List.mem_of_getElem? (i := 1) rfl)) (fun _ h9 => h9) rfl dX8_bottles_23 ?_
      refine lv_iconst (v := (2 : Int32)) hx hb dX8_bottles_26 (by decide) ?_
      refine va_iald hx hb hK hP 1 6 rfl rfl (inB_in (by decide : inB (2 : Int32) 55 = true)) dX8_bottles_27 ?_
      obtain ⟨v13, hv13, hF⟩ := oB hF
      refine call_i (wr := [(aMn, .inl (K 6, 55, .inl nN))]) (wn := [(aM, .inr (6, [.ref aMn, .ref aMt, .ref aMk, .int mU, .ref aMs, .int mB, .ref aMl, .int mI, .ref aMx, .int mH, .int mQ, .int mW, .ref aMd, .int mF, .int v13.2.1, .int v13.2.2.1, .int v13.2.2.2, .int mA, .int mT])), (aMn, .inl (K 6, 55, .inl nN))]) (va_runV (As := [.int (10 : Int32), .int (nN (2 : Int32).toNatClampNeg)]) (rest := []) ⟨hx, hb, hml, hown, hts⟩ (c_X8_refuses l D K aM aMn aMt aMk aMs aMl aMx aMd mU mB mI mH mQ mW mF v1.2.1 v1.2.2.1 v1.2.2.2 mA mT (10 : Int32) (nN (2 : Int32).toNatClampNeg) v13 hv13 H.size) (cwV 2 hts gX8_bottles_X8_refuses rfl rfl rfl (by decide +kernel) ⟨(Nat.le_of_ble_eq_true rfl), (Nat.le_of_ble_eq_true rfl)⟩) (prV hE hK hP hD hS hA [0] rfl rfl 6 0 rfl rfl rfl) rfl rfl hl.1 rfl (lv_room (Nat.le_of_ble_eq_true rfl)) dX8_bottles_28 ⟨(Nat.le_of_ble_eq_true rfl), (Nat.le_of_ble_eq_true rfl)⟩) hP hD hS hA [0] [1] [1, 0] rfl rfl rfl (by decide) rfl rfl (fun H locs hP hD hS => ?_)
      obtain ⟨g14, hF⟩ := oG hF
      exact fin_z (u := (v13.1, (v13.2.1, v13.2.2.1, v13.2.2.2, mA, nN))) hF (okN_n g14) hx hb hr hlocks hK hP hD hS (Nat.le_of_ble_eq_true rfl) (Nat.le_of_ble_eq_true rfl) dX8_bottles_31
  · have hF := oT c2 hF
    refine lv_iconst (v := (0 : Int32)) hx hb dX8_bottles_8 (by decide) ?_
    exact fin_z (u := ((0 : Int32), (v1.2.1, v1.2.2.1, v1.2.2.2, mA, nN))) hF (okN_n (ty := .boolean) (x := (0 : Int32)) (by decide)) hx hb hr hlocks hK hP hD hS (Nat.le_of_ble_eq_true rfl) (Nat.le_of_ble_eq_true rfl) dX8_bottles_9
abbrev RM_X8_bottle : Room := { frames := 4, cells := 0, slots := 0, locals := 85 }
abbrev MC_X8_bottle : Nat := 0
abbrev MS_X8_bottle : Nat := 0
abbrev wf_X8_bottle (K : Nat → ClassId) (aM : Nat) (aMn : Nat) (aMt : Nat) (aMk : Nat) (aMs : Nat) (aMl : Nat) (aMx : Nat) (aMd : Nat) (mB : Int32) (mI : Int32) (mH : Int32) (mQ : Int32) (mW : Int32) (mF : Int32) (v : Int32 × Int32 × Int32 × Int32 × Int32 × Int32 × Int32 × (Nat → Int32) × (Nat → Int32) × (Nat → Int32)) : va_W := [(aM, .inr (6, [.ref aMn, .ref aMt, .ref aMk, .int v.2.1, .ref aMs, .int mB, .ref aMl, .int mI, .ref aMx, .int mH, .int mQ, .int mW, .ref aMd, .int mF, .int v.2.2.1, .int v.2.2.2.1, .int v.2.2.2.2.1, .int v.2.2.2.2.2.1, .int v.2.2.2.2.2.2.1])), (aMn, .inl (K 6, 55, .inl v.2.2.2.2.2.2.2.1)), (aMt, .inl (K 7, 55, .inl v.2.2.2.2.2.2.2.2.1)), (aMk, .inl (K 8, 440, .inl v.2.2.2.2.2.2.2.2.2))]
set_option maxHeartbeats 4000000 in
set_option maxRecDepth 100000 in
theorem c_X8_bottle (l : Launch) (D : va_G) (K : Nat → ClassId) (aM : Nat) (aMn : Nat) (aMt : Nat) (aMk : Nat) (aMs : Nat) (aMl : Nat) (aMx : Nat) (aMd : Nat) (mU : Int32) (mB : Int32) (mI : Int32) (mH : Int32) (mQ : Int32) (mW : Int32) (mF : Int32) (mR : Int32) (mD : Int32) (mJ : Int32) (mA : Int32) (mT : Int32) (nN : Nat → Int32) (nT : Nat → Int32) (nK : Nat → Int32) (p1 : Int32) (v : Int32 × Int32 × Int32 × Int32 × Int32 × Int32 × Int32 × (Nat → Int32) × (Nat → Int32) × (Nat → Int32)) (hF : f_X8_bottle mU mR mD mJ mA mT nN nT nK p1 = some v) (sz : Nat) :
    (Met l yX8_bottle wsX8_bottle RM_X8_bottle (PC D (TY K) [(aM, .inr (6, [.ref aMn, .ref aMt, .ref aMk, .int mU, .ref aMs, .int mB, .ref aMl, .int mI, .ref aMx, .int mH, .int mQ, .int mW, .ref aMd, .int mF, .int mR, .int mD, .int mJ, .int mA, .int mT])), (aMn, .inl (K 6, 55, .inl nN)), (aMt, .inl (K 7, 55, .inl nT)), (aMk, .inl (K 8, 440, .inl nK))] [.ref aM, .int p1] sz) (QI D (TY K) (wf_X8_bottle K aM aMn aMt aMk aMs aMl aMx aMd mB mI mH mQ mW mF) v (va_A [(aM, .inr (6, [.ref aMn, .ref aMt, .ref aMk, .int mU, .ref aMs, .int mB, .ref aMl, .int mI, .ref aMx, .int mH, .int mQ, .int mW, .ref aMd, .int mF, .int mR, .int mD, .int mJ, .int mA, .int mT])), (aMn, .inl (K 6, 55, .inl nN)), (aMt, .inl (K 7, 55, .inl nT)), (aMk, .inl (K 8, 440, .inl nK))] sz)) MC_X8_bottle MS_X8_bottle (va_A [(aM, .inr (6, [.ref aMn, .ref aMt, .ref aMk, .int mU, .ref aMs, .int mB, .ref aMl, .int mI, .ref aMx, .int mH, .int mQ, .int mW, .ref aMd, .int mF, .int mR, .int mD, .int mJ, .int mA, .int mT])), (aMn, .inl (K 6, 55, .inl nN)), (aMt, .inl (K 7, 55, .inl nT)), (aMk, .inl (K 8, 440, .inl nK))] sz)) := by
  refine pro (Qf := fun A => QI D (TY K) (wf_X8_bottle K aM aMn aMt aMk aMs aMl aMx aMd mB mI mH mQ mW mF) v A) (cc := cX8_bottle) (maxL := 2) (ret := (some .int)) (by decide +kernel) rfl (Nat.le_of_ble_eq_true rfl) ?_
  intro p e s m args below meth c hx hb hr hts hown hlocks hml hini hK A hA hE hP hD hS ls hl
  have hown : s.vm.findClass RX8 = some m.cls := hown
  have hl : lv_has ls 2 [(0, .ref aM), (1, .int p1)] := hl
  rw [f_X8_bottle] at hF
  refine lv_aload_n hx hb dX8_bottle_0 rfl (lv_at hl 0 rfl) ?_
  obtain ⟨v1, hv1, hF⟩ := oB hF
  refine call_v (wr := [(aMk, .inl (K 8, 440, .inl nK))]) (wn := [(aM, .inr (6, [.ref aMn, .ref aMt, .ref aMk, .int mU, .ref aMs, .int mB, .ref aMl, .int mI, .ref aMx, .int mH, .int mQ, .int mW, .ref aMd, .int mF, .int mR, .int mD, .int mJ, .int mA, .int v1.1])), (aMn, .inl (K 6, 55, .inl nN)), (aMt, .inl (K 7, 55, .inl v1.2)), (aMk, .inl (K 8, 440, .inl nK))]) (va_runV (As := []) (rest := []) ⟨hx, hb, hml, hown, hts⟩ (c_X8_tries l D K aM aMn aMt aMk aMs aMl aMx aMd mU mB mI mH mQ mW mF mR mD mJ mA mT nN nT v1 hv1 s.heap.size) (cwV 0 hts gX8_bottle_X8_tries rfl rfl rfl (by decide +kernel) ⟨(Nat.le_of_ble_eq_true rfl), (Nat.le_of_ble_eq_true rfl)⟩) (prV hE hK hP hD hS hA [0, 1, 2] rfl rfl 6 0 rfl rfl rfl) rfl rfl hl.1 rfl (lv_room (Nat.le_of_ble_eq_true rfl)) dX8_bottle_1 ⟨(Nat.le_of_ble_eq_true rfl), (Nat.le_of_ble_eq_true rfl)⟩) hP hD hS hA [0, 1, 2] [3] [1, 2, 3, 0] rfl rfl rfl (by decide) rfl rfl (fun H locs hP hD hS => ?_)
  refine lv_aload_n hx hb dX8_bottle_4 rfl (lv_at hl 0 rfl) ?_
  refine lv_aload_n hx hb dX8_bottle_5 rfl (lv_at hl 0 rfl) ?_
  refine lv_iload_n hx hb dX8_bottle_6 rfl (lv_at hl 1 rfl) ?_
  obtain ⟨v2, hv2, hF⟩ := oB hF
  refine call_i (wr := [(aMt, .inl (K 7, 55, .inl v1.2)), (aMk, .inl (K 8, 440, .inl nK))]) (wn := [(aM, .inr (6, [.ref aMn, .ref aMt, .ref aMk, .int mU, .ref aMs, .int mB, .ref aMl, .int mI, .ref aMx, .int mH, .int mQ, .int mW, .ref aMd, .int mF, .int v2.2.1, .int v2.2.2.1, .int v2.2.2.2.1, .int v2.2.2.2.2.1, .int v1.1])), (aMn, .inl (K 6, 55, .inl v2.2.2.2.2.2)), (aMt, .inl (K 7, 55, .inl v1.2)), (aMk, .inl (K 8, 440, .inl nK))]) (va_runV (As := [.int p1]) (rest := [.ref aM]) ⟨hx, hb, hml, hown, hts⟩ (c_X8_bottles l D K aM aMn aMt aMk aMs aMl aMx aMd mU mB mI mH mQ mW mF mR mD mJ mA v1.1 nN p1 v2 hv2 H.size) (cwV 1 hts gX8_bottle_X8_bottles rfl rfl rfl (by decide +kernel) ⟨(Nat.le_of_ble_eq_true rfl), (Nat.le_of_ble_eq_true rfl)⟩) (prV hE hK hP hD hS hA [0, 1] rfl rfl 6 0 rfl rfl rfl) rfl rfl hl.1 rfl (lv_room (Nat.le_of_ble_eq_true rfl)) dX8_bottle_7 ⟨(Nat.le_of_ble_eq_true rfl), (Nat.le_of_ble_eq_true rfl)⟩) hP hD hS hA [0, 1] [2, 3] [2, 3, 0, 1] rfl rfl rfl (by decide) rfl rfl (fun H locs hP hD hS => ?_)
  obtain ⟨v3, hv3, hF⟩ := oB hF
  refine call_i (wr := [(aMn, .inl (K 6, 55, .inl v2.2.2.2.2.2))]) (wn := [(aM, .inr (6, [.ref aMn, .ref aMt, .ref aMk, .int v3.2.1, .ref aMs, .int mB, .ref aMl, .int mI, .ref aMx, .int mH, .int mQ, .int mW, .ref aMd, .int mF, .int v2.2.1, .int v2.2.2.1, .int v2.2.2.2.1, .int v2.2.2.2.2.1, .int v3.2.2.1])), (aMn, .inl (K 6, 55, .inl v2.2.2.2.2.2)), (aMt, .inl (K 7, 55, .inl v1.2)), (aMk, .inl (K 8, 440, .inl v3.2.2.2))]) (va_runV (As := [.int v2.1]) (rest := []) ⟨hx, hb, hml, hown, hts⟩ (c_X8_ends l D K aM aMn aMt aMk aMs aMl aMx aMd mU mB mI mH mQ mW mF v2.2.1 v2.2.2.1 v2.2.2.2.1 v2.2.2.2.2.1 v1.1 v1.2 nK v2.1 v3 hv3 H.size) (cwV 1 hts gX8_bottle_X8_ends rfl rfl rfl (by decide +kernel) ⟨(Nat.le_of_ble_eq_true rfl), (Nat.le_of_ble_eq_true rfl)⟩) (prV hE hK hP hD hS hA [0, 2, 3] rfl rfl 6 0 rfl rfl rfl) rfl rfl hl.1 rfl (lv_room (Nat.le_of_ble_eq_true rfl)) dX8_bottle_10 ⟨(Nat.le_of_ble_eq_true rfl), (Nat.le_of_ble_eq_true rfl)⟩) hP hD hS hA [0, 2, 3] [1] [1, 0, 2, 3] rfl rfl rfl (by decide) rfl rfl (fun H locs hP hD hS => ?_)
  exact fin_i (u := (v3.1, (v3.2.1, v2.2.1, v2.2.2.1, v2.2.2.2.1, v2.2.2.2.2.1, v3.2.2.1, v2.2.2.2.2.2, v1.2, v3.2.2.2))) hF hx hb hr hlocks hK hP hD hS (Nat.le_of_ble_eq_true rfl) (Nat.le_of_ble_eq_true rfl) dX8_bottle_13
abbrev RM_X8_letsOut : Room := { frames := 3, cells := 0, slots := 0, locals := 64 }
abbrev MC_X8_letsOut : Nat := 0
abbrev MS_X8_letsOut : Nat := 0
abbrev wf_X8_letsOut (K : Nat → ClassId) (aM : Nat) (aMn : Nat) (aMt : Nat) (aMk : Nat) (aMs : Nat) (aMl : Nat) (aMx : Nat) (aMd : Nat) (mU : Int32) (mB : Int32) (mI : Int32) (mH : Int32) (mQ : Int32) (mW : Int32) (mF : Int32) (mT : Int32) (v : Int32 × Int32 × Int32 × Int32 × Int32 × (Nat → Int32)) : va_W := [(aM, .inr (6, [.ref aMn, .ref aMt, .ref aMk, .int mU, .ref aMs, .int mB, .ref aMl, .int mI, .ref aMx, .int mH, .int mQ, .int mW, .ref aMd, .int mF, .int v.2.1, .int v.2.2.1, .int v.2.2.2.1, .int v.2.2.2.2.1, .int mT])), (aMn, .inl (K 6, 55, .inl v.2.2.2.2.2))]
set_option maxHeartbeats 4000000 in
set_option maxRecDepth 100000 in
theorem c_X8_letsOut (l : Launch) (D : va_G) (K : Nat → ClassId) (aM : Nat) (aMn : Nat) (aMt : Nat) (aMk : Nat) (aMs : Nat) (aMl : Nat) (aMx : Nat) (aMd : Nat) (mU : Int32) (mB : Int32) (mI : Int32) (mH : Int32) (mQ : Int32) (mW : Int32) (mF : Int32) (mR : Int32) (mD : Int32) (mJ : Int32) (mA : Int32) (mT : Int32) (nN : Nat → Int32) (p1 : Int32) (v : Int32 × Int32 × Int32 × Int32 × Int32 × (Nat → Int32)) (hF : f_X8_letsOut mR mD mJ mA nN p1 = some v) (sz : Nat) :
    (Met l yX8_letsOut wsX8_letsOut RM_X8_letsOut (PC D (TY K) [(aM, .inr (6, [.ref aMn, .ref aMt, .ref aMk, .int mU, .ref aMs, .int mB, .ref aMl, .int mI, .ref aMx, .int mH, .int mQ, .int mW, .ref aMd, .int mF, .int mR, .int mD, .int mJ, .int mA, .int mT])), (aMn, .inl (K 6, 55, .inl nN))] [.ref aM, .int p1] sz) (QI D (TY K) (wf_X8_letsOut K aM aMn aMt aMk aMs aMl aMx aMd mU mB mI mH mQ mW mF mT) v (va_A [(aM, .inr (6, [.ref aMn, .ref aMt, .ref aMk, .int mU, .ref aMs, .int mB, .ref aMl, .int mI, .ref aMx, .int mH, .int mQ, .int mW, .ref aMd, .int mF, .int mR, .int mD, .int mJ, .int mA, .int mT])), (aMn, .inl (K 6, 55, .inl nN))] sz)) MC_X8_letsOut MS_X8_letsOut (va_A [(aM, .inr (6, [.ref aMn, .ref aMt, .ref aMk, .int mU, .ref aMs, .int mB, .ref aMl, .int mI, .ref aMx, .int mH, .int mQ, .int mW, .ref aMd, .int mF, .int mR, .int mD, .int mJ, .int mA, .int mT])), (aMn, .inl (K 6, 55, .inl nN))] sz)) := by
  refine pro (Qf := fun A => QI D (TY K) (wf_X8_letsOut K aM aMn aMt aMk aMs aMl aMx aMd mU mB mI mH mQ mW mF mT) v A) (cc := cX8_letsOut) (maxL := 3) (ret := (some .boolean)) (by decide +kernel) rfl (Nat.le_of_ble_eq_true rfl) ?_
  intro p e s m args below meth c hx hb hr hts hown hlocks hml hini hK A hA hE hP hD hS ls hl
  have hown : s.vm.findClass RX8 = some m.cls := hown
  have hl : lv_has ls 3 [(0, .ref aM), (1, .int p1)] := hl
  rw [f_X8_letsOut] at hF
  refine lv_aload_n hx hb dX8_letsOut_0 rfl (lv_at hl 0 rfl) ?_
  refine lv_iload_n hx hb dX8_letsOut_1 rfl (lv_at hl 1 rfl) ?_
  obtain ⟨v1, hv1, hF⟩ := oB hF
  refine call_i (wr := []) (wn := [(aM, .inr (6, [.ref aMn, .ref aMt, .ref aMk, .int mU, .ref aMs, .int mB, .ref aMl, .int mI, .ref aMx, .int mH, .int mQ, .int mW, .ref aMd, .int mF, .int v1.2.1, .int v1.2.2.1, .int v1.2.2.2, .int mA, .int mT])), (aMn, .inl (K 6, 55, .inl nN))]) (va_runV (As := [.int p1]) (rest := []) ⟨hx, hb, hml, hown, hts⟩ (c_X8_isThere l D K aM aMn aMt aMk aMs aMl aMx aMd mU mB mI mH mQ mW mF mR mD mJ mA mT nN p1 v1 hv1 s.heap.size) (cwV 1 hts gX8_letsOut_X8_isThere rfl rfl rfl (by decide +kernel) ⟨(Nat.le_of_ble_eq_true rfl), (Nat.le_of_ble_eq_true rfl)⟩) (prV hE hK hP hD hS hA [0, 1] rfl rfl 6 0 rfl rfl rfl) rfl rfl hl.1 rfl (lv_room (Nat.le_of_ble_eq_true rfl)) dX8_letsOut_2 ⟨(Nat.le_of_ble_eq_true rfl), (Nat.le_of_ble_eq_true rfl)⟩) hP hD hS hA [0, 1] [] [0, 1] rfl rfl rfl (by decide) rfl rfl (fun H locs hP hD hS => ?_)
  refine lv_if_ne (tgt := 10) hx hb dX8_letsOut_5 (by decide) (fun c2 => ?_) (fun c2 => ?_)
  · have hF := oF c2 hF
    refine lv_aload_n hx hb dX8_letsOut_10 rfl (lv_at hl 0 rfl) ?_
    refine lv_iload_n hx hb dX8_letsOut_11 rfl (lv_at hl 1 rfl) ?_
    refine lv_iconst (v := (5 : Int32)) hx hb dX8_letsOut_12 (by decide) ?_
    obtain ⟨v3, hv3, hF⟩ := oB hF
    refine call_i (wr := []) (wn := [(aM, .inr (6, [.ref aMn, .ref aMt, .ref aMk, .int mU, .ref aMs, .int mB, .ref aMl, .int mI, .ref aMx, .int mH, .int mQ, .int mW, .ref aMd, .int mF, .int v1.2.1, .int v1.2.2.1, .int v1.2.2.2, .int mA, .int mT])), (aMn, .inl (K 6, 55, .inl nN))]) (va_runV (As := [.int p1, .int (5 : Int32)]) (rest := []) ⟨hx, hb, hml, hown, hts⟩ (c_X8_of l D K aM aMn aMt aMk aMs aMl aMx aMd mU mB mI mH mQ mW mF v1.2.1 v1.2.2.1 v1.2.2.2 mA mT nN p1 (5 : Int32) v3 hv3 H.size) (cwV 2 hts gX8_letsOut_X8_of rfl rfl rfl (by decide +kernel) ⟨(Nat.le_of_ble_eq_true rfl), (Nat.le_of_ble_eq_true rfl)⟩) (prV hE hK hP hD hS hA [0, 1] rfl rfl 6 0 rfl rfl rfl) rfl rfl hl.1 rfl (lv_room (Nat.le_of_ble_eq_true rfl)) dX8_letsOut_13 ⟨(Nat.le_of_ble_eq_true rfl), (Nat.le_of_ble_eq_true rfl)⟩) hP hD hS hA [0, 1] [] [0, 1] rfl rfl rfl (by decide) rfl rfl (fun H locs hP hD hS => ?_)
    refine lv_if_ne (tgt := 27) hx hb dX8_letsOut_16 (by decide) (fun c4 => ?_) (fun c4 => ?_)
    · have hF := oF c4 hF
      refine lv_aload_n hx hb dX8_letsOut_27 rfl (lv_at hl 0 rfl) ?_
      refine va_get (D := D) (ci := 6) (v := .ref aMn) (C := RX8) (T := TX8) (N := 19) hx hb hts (fun _ h => List.mem_cons_of_mem _ (List.mem_append_left _ (List.mem_append_right _ h))) hown hK hP 0 rfl rfl 0 (by decide) (hts (.fieldLink RX8 9 "BarometerClubModel" "now" "[I") (List.mem_of_getElem? (i := 1) rfl)) (fun _ h9 => h9) rfl dX8_letsOut_28 ?_
      refine lv_iconst (v := (1 : Int32)) hx hb dX8_letsOut_31 (by decide) ?_
      refine va_iald hx hb hK hP 1 6 rfl rfl (inB_in (by decide : inB (1 : Int32) 55 = true)) dX8_letsOut_32 ?_
      refine lv_bipush (v := (15 : Int32)) hx hb dX8_letsOut_33 (by decide) ?_
      refine lv_isub hx hb dX8_letsOut_35 ?_
      refine lv_istore_n (lv' := [(2, .int ((nN (1 : Int32).toNatClampNeg) - (15 : Int32))), (0, .ref aM), (1, .int p1)]) hx hb dX8_letsOut_36 rfl hl (by decide) rfl (fun ls hl => ?_)
      refine lv_iload_n hx hb dX8_letsOut_37 rfl (lv_at hl 0 rfl) ?_
      refine lv_sipush (v := (900 : Int32)) hx hb dX8_letsOut_38 (by decide) ?_
      refine lv_icmp_ge (tgt := 52) hx hb dX8_letsOut_41 (by decide) (fun c5 => ?_) (fun c5 => ?_)
      · have hF := oT c5 hF
        refine lv_aload_n hx hb dX8_letsOut_52 rfl (lv_at hl 1 rfl) ?_
        refine lv_iload_n hx hb dX8_letsOut_53 rfl (lv_at hl 2 rfl) ?_
        refine lv_iconst (v := (5 : Int32)) hx hb dX8_letsOut_54 (by decide) ?_
        refine lv_aload_n hx hb dX8_letsOut_55 rfl (lv_at hl 1 rfl) ?_
        refine lv_iload_n hx hb dX8_letsOut_56 rfl (lv_at hl 2 rfl) ?_
        refine lv_iconst (v := (5 : Int32)) hx hb dX8_letsOut_57 (by decide) ?_
        obtain ⟨v6, hv6, hF⟩ := oB hF
        refine call_i (wr := []) (wn := [(aM, .inr (6, [.ref aMn, .ref aMt, .ref aMk, .int mU, .ref aMs, .int mB, .ref aMl, .int mI, .ref aMx, .int mH, .int mQ, .int mW, .ref aMd, .int mF, .int v1.2.1, .int v1.2.2.1, .int v1.2.2.2, .int mA, .int mT])), (aMn, .inl (K 6, 55, .inl nN))]) (va_runV (As := [.int p1, .int (5 : Int32)]) (rest := [.int (5 : Int32), .int p1, .ref aM]) ⟨hx, hb, hml, hown, hts⟩ (c_X8_of l D K aM aMn aMt aMk aMs aMl aMx aMd mU mB mI mH mQ mW mF v1.2.1 v1.2.2.1 v1.2.2.2 mA mT nN p1 (5 : Int32) v6 hv6 H.size) (cwV 2 hts gX8_letsOut_X8_of rfl rfl rfl (by decide +kernel) ⟨(Nat.le_of_ble_eq_true rfl), (Nat.le_of_ble_eq_true rfl)⟩) (prV hE hK hP hD hS hA [0, 1] rfl rfl 6 0 rfl rfl rfl) rfl rfl hl.1 rfl (lv_room (Nat.le_of_ble_eq_true rfl)) dX8_letsOut_58 ⟨(Nat.le_of_ble_eq_true rfl), (Nat.le_of_ble_eq_true rfl)⟩) hP hD hS hA [0, 1] [] [0, 1] rfl rfl rfl (by decide) rfl rfl (fun H locs hP hD hS => ?_)
        refine lv_iconst (v := (1 : Int32)) hx hb dX8_letsOut_61 (by decide) ?_
        refine lv_isub hx hb dX8_letsOut_62 ?_
        obtain ⟨v7, hv7, hF⟩ := oB hF
        refine call_v (wr := []) (wn := [(aM, .inr (6, [.ref aMn, .ref aMt, .ref aMk, .int mU, .ref aMs, .int mB, .ref aMl, .int mI, .ref aMx, .int mH, .int mQ, .int mW, .ref aMd, .int mF, .int v1.2.1, .int v1.2.2.1, .int v1.2.2.2, .int mA, .int mT])), (aMn, .inl (K 6, 55, .inl v7))]) (va_runV (As := [.int p1, .int (5 : Int32), .int (v6.1 - (1 : Int32))]) (rest := []) ⟨hx, hb, hml, hown, hts⟩ (c_X8_sets l D K aM aMn aMt aMk aMs aMl aMx aMd mU mB mI mH mQ mW mF v1.2.1 v1.2.2.1 v1.2.2.2 mA mT nN p1 (5 : Int32) (v6.1 - (1 : Int32)) v7 hv7 H.size) (cwV 3 hts gX8_letsOut_X8_sets rfl rfl rfl (by decide +kernel) ⟨(Nat.le_of_ble_eq_true rfl), (Nat.le_of_ble_eq_true rfl)⟩) (prV hE hK hP hD hS hA [0, 1] rfl rfl 6 0 rfl rfl rfl) rfl rfl hl.1 rfl (lv_room (Nat.le_of_ble_eq_true rfl)) dX8_letsOut_63 ⟨(Nat.le_of_ble_eq_true rfl), (Nat.le_of_ble_eq_true rfl)⟩) hP hD hS hA [0, 1] [] [0, 1] rfl rfl rfl (by decide) rfl rfl (fun H locs hP hD hS => ?_)
        refine lv_aload_n hx hb dX8_letsOut_66 rfl (lv_at hl 1 rfl) ?_
        refine va_get (D := D) (ci := 6) (v := .ref aMn) (C := RX8) (T := TX8) (N := 19) hx hb hts (fun _ h => List.mem_cons_of_mem _ (List.mem_append_left _ (List.mem_append_right _ h))) hown hK hP 0 rfl rfl 0 (by decide) (hts (.fieldLink RX8 9 "BarometerClubModel" "now" "[I") (List.mem_of_getElem? (i := 1) rfl)) (fun _ h9 => h9) rfl dX8_letsOut_67 ?_
        refine lv_iconst (v := (1 : Int32)) hx hb dX8_letsOut_70 (by decide) ?_
        refine lv_iload_n hx hb dX8_letsOut_71 rfl (lv_at hl 0 rfl) ?_
        refine va_iast hx hb hK hP hD hS 1 6 rfl rfl (inB_in (by decide : inB (1 : Int32) 55 = true)) dX8_letsOut_72 (fun H locs hP hD hS => ?_)
        have hP : va_P D vwC7 [(aM, .inr (6, [.ref aMn, .ref aMt, .ref aMk, .int mU, .ref aMs, .int mB, .ref aMl, .int mI, .ref aMx, .int mH, .int mQ, .int mW, .ref aMd, .int mF, .int v1.2.1, .int v1.2.2.1, .int v1.2.2.2, .int mA, .int mT])), (aMn, .inl (K 6, 55, .inl (upd v7 (1 : Int32).toNatClampNeg ((nN (1 : Int32).toNatClampNeg) - (15 : Int32)))))] H := hP
        have hD : va_D A [(aM, .inr (6, [.ref aMn, .ref aMt, .ref aMk, .int mU, .ref aMs, .int mB, .ref aMl, .int mI, .ref aMx, .int mH, .int mQ, .int mW, .ref aMd, .int mF, .int v1.2.1, .int v1.2.2.1, .int v1.2.2.2, .int mA, .int mT])), (aMn, .inl (K 6, 55, .inl (upd v7 (1 : Int32).toNatClampNeg ((nN (1 : Int32).toNatClampNeg) - (15 : Int32)))))] := hD
        refine lv_aload_n hx hb dX8_letsOut_73 rfl (lv_at hl 1 rfl) ?_
        refine va_get (D := D) (ci := 6) (v := .ref aMn) (C := RX8) (T := TX8) (N := 19) hx hb hts (fun _ h => List.mem_cons_of_mem _ (List.mem_append_left _ (List.mem_append_right _ h))) hown hK hP 0 rfl rfl 0 (by decide) (hts (.fieldLink RX8 9 "BarometerClubModel" "now" "[I") (List.mem_of_getElem? (i := 1) rfl)) (fun _ h9 => h9) rfl dX8_letsOut_74 ?_
        refine lv_iconst (v := (2 : Int32)) hx hb dX8_letsOut_77 (by decide) ?_
        refine lv_bipush (v := (-15 : Int32)) hx hb dX8_letsOut_78 (by decide) ?_
        refine va_iast hx hb hK hP hD hS 1 6 rfl rfl (inB_in (by decide : inB (2 : Int32) 55 = true)) dX8_letsOut_80 (fun H locs hP hD hS => ?_)
        have hP : va_P D vwC7 [(aM, .inr (6, [.ref aMn, .ref aMt, .ref aMk, .int mU, .ref aMs, .int mB, .ref aMl, .int mI, .ref aMx, .int mH, .int mQ, .int mW, .ref aMd, .int mF, .int v1.2.1, .int v1.2.2.1, .int v1.2.2.2, .int mA, .int mT])), (aMn, .inl (K 6, 55, .inl (upd (upd v7 (1 : Int32).toNatClampNeg ((nN (1 : Int32).toNatClampNeg) - (15 : Int32))) (2 : Int32).toNatClampNeg (-15 : Int32))))] H := hP
        have hD : va_D A [(aM, .inr (6, [.ref aMn, .ref aMt, .ref aMk, .int mU, .ref aMs, .int mB, .ref aMl, .int mI, .ref aMx, .int mH, .int mQ, .int mW, .ref aMd, .int mF, .int v1.2.1, .int v1.2.2.1, .int v1.2.2.2, .int mA, .int mT])), (aMn, .inl (K 6, 55, .inl (upd (upd v7 (1 : Int32).toNatClampNeg ((nN (1 : Int32).toNatClampNeg) - (15 : Int32))) (2 : Int32).toNatClampNeg (-15 : Int32))))] := hD
        refine lv_aload_n hx hb dX8_letsOut_81 rfl (lv_at hl 1 rfl) ?_
        refine va_get (D := D) (ci := 6) (v := .ref aMn) (C := RX8) (T := TX8) (N := 19) hx hb hts (fun _ h => List.mem_cons_of_mem _ (List.mem_append_left _ (List.mem_append_right _ h))) hown hK hP 0 rfl rfl 0 (by decide) (hts (.fieldLink RX8 9 "BarometerClubModel" "now" "[I") (List.mem_of_getElem? (i := 1) rfl)) (fun _ h9 => h9) rfl dX8_letsOut_82 ?_
        refine lv_iconst (v := (3 : Int32)) hx hb dX8_letsOut_85 (by decide) ?_
        refine lv_iconst (v := (0 : Int32)) hx hb dX8_letsOut_86 (by decide) ?_
        refine va_iast hx hb hK hP hD hS 1 6 rfl rfl (inB_in (by decide : inB (3 : Int32) 55 = true)) dX8_letsOut_87 (fun H locs hP hD hS => ?_)
        have hP : va_P D vwC7 [(aM, .inr (6, [.ref aMn, .ref aMt, .ref aMk, .int mU, .ref aMs, .int mB, .ref aMl, .int mI, .ref aMx, .int mH, .int mQ, .int mW, .ref aMd, .int mF, .int v1.2.1, .int v1.2.2.1, .int v1.2.2.2, .int mA, .int mT])), (aMn, .inl (K 6, 55, .inl (upd (upd (upd v7 (1 : Int32).toNatClampNeg ((nN (1 : Int32).toNatClampNeg) - (15 : Int32))) (2 : Int32).toNatClampNeg (-15 : Int32)) (3 : Int32).toNatClampNeg (0 : Int32))))] H := hP
        have hD : va_D A [(aM, .inr (6, [.ref aMn, .ref aMt, .ref aMk, .int mU, .ref aMs, .int mB, .ref aMl, .int mI, .ref aMx, .int mH, .int mQ, .int mW, .ref aMd, .int mF, .int v1.2.1, .int v1.2.2.1, .int v1.2.2.2, .int mA, .int mT])), (aMn, .inl (K 6, 55, .inl (upd (upd (upd v7 (1 : Int32).toNatClampNeg ((nN (1 : Int32).toNatClampNeg) - (15 : Int32))) (2 : Int32).toNatClampNeg (-15 : Int32)) (3 : Int32).toNatClampNeg (0 : Int32))))] := hD
        refine lv_aload_n hx hb dX8_letsOut_88 rfl (lv_at hl 1 rfl) ?_
        refine va_get (D := D) (ci := 6) (v := .ref aMn) (C := RX8) (T := TX8) (N := 19) hx hb hts (fun _ h => List.mem_cons_of_mem _ (List.mem_append_left _ (List.mem_append_right _ h))) hown hK hP 0 rfl rfl 0 (by decide) (hts (.fieldLink RX8 9 "BarometerClubModel" "now" "[I") (List.mem_of_getElem? (i := 1) rfl)) (fun _ h9 => h9) rfl dX8_letsOut_89 ?_
        refine lv_bipush (v := (6 : Int32)) hx hb dX8_letsOut_92 (by decide) ?_
        refine lv_dup2_11 hx hb dX8_letsOut_94 rfl rfl ?_
        refine va_iald hx hb hK hP 1 6 rfl rfl (inB_in (by decide : inB (6 : Int32) 55 = true)) dX8_letsOut_95 ?_
        refine lv_iconst (v := (1 : Int32)) hx hb dX8_letsOut_96 (by decide) ?_
        refine lv_iadd hx hb dX8_letsOut_97 ?_
        refine va_iast hx hb hK hP hD hS 1 6 rfl rfl (inB_in (by decide : inB (6 : Int32) 55 = true)) dX8_letsOut_98 (fun H locs hP hD hS => ?_)
        have hP : va_P D vwC7 [(aM, .inr (6, [.ref aMn, .ref aMt, .ref aMk, .int mU, .ref aMs, .int mB, .ref aMl, .int mI, .ref aMx, .int mH, .int mQ, .int mW, .ref aMd, .int mF, .int v1.2.1, .int v1.2.2.1, .int v1.2.2.2, .int mA, .int mT])), (aMn, .inl (K 6, 55, .inl (upd (upd (upd (upd v7 (1 : Int32).toNatClampNeg ((nN (1 : Int32).toNatClampNeg) - (15 : Int32))) (2 : Int32).toNatClampNeg (-15 : Int32)) (3 : Int32).toNatClampNeg (0 : Int32)) (6 : Int32).toNatClampNeg (((upd (upd (upd v7 (1 : Int32).toNatClampNeg ((nN (1 : Int32).toNatClampNeg) - (15 : Int32))) (2 : Int32).toNatClampNeg (-15 : Int32)) (3 : Int32).toNatClampNeg (0 : Int32)) (6 : Int32).toNatClampNeg) + (1 : Int32)))))] H := hP
        have hD : va_D A [(aM, .inr (6, [.ref aMn, .ref aMt, .ref aMk, .int mU, .ref aMs, .int mB, .ref aMl, .int mI, .ref aMx, .int mH, .int mQ, .int mW, .ref aMd, .int mF, .int v1.2.1, .int v1.2.2.1, .int v1.2.2.2, .int mA, .int mT])), (aMn, .inl (K 6, 55, .inl (upd (upd (upd (upd v7 (1 : Int32).toNatClampNeg ((nN (1 : Int32).toNatClampNeg) - (15 : Int32))) (2 : Int32).toNatClampNeg (-15 : Int32)) (3 : Int32).toNatClampNeg (0 : Int32)) (6 : Int32).toNatClampNeg (((upd (upd (upd v7 (1 : Int32).toNatClampNeg ((nN (1 : Int32).toNatClampNeg) - (15 : Int32))) (2 : Int32).toNatClampNeg (-15 : Int32)) (3 : Int32).toNatClampNeg (0 : Int32)) (6 : Int32).toNatClampNeg) + (1 : Int32)))))] := hD
        refine lv_aload_n hx hb dX8_letsOut_99 rfl (lv_at hl 1 rfl) ?_
        refine lv_iload_n hx hb dX8_letsOut_100 rfl (lv_at hl 0 rfl) ?_
        obtain ⟨v8, hv8, hF⟩ := oB hF
        refine call_i (wr := [(aMn, .inl (K 6, 55, .inl (upd (upd (upd (upd v7 (1 : Int32).toNatClampNeg ((nN (1 : Int32).toNatClampNeg) - (15 : Int32))) (2 : Int32).toNatClampNeg (-15 : Int32)) (3 : Int32).toNatClampNeg (0 : Int32)) (6 : Int32).toNatClampNeg (((upd (upd (upd v7 (1 : Int32).toNatClampNeg ((nN (1 : Int32).toNatClampNeg) - (15 : Int32))) (2 : Int32).toNatClampNeg (-15 : Int32)) (3 : Int32).toNatClampNeg (0 : Int32)) (6 : Int32).toNatClampNeg) + (1 : Int32)))))]) (wn := [(aM, .inr (6, [.ref aMn, .ref aMt, .ref aMk, .int mU, .ref aMs, .int mB, .ref aMl, .int mI, .ref aMx, .int mH, .int mQ, .int mW, .ref aMd, .int mF, .int v1.2.1, .int v1.2.2.1, .int v1.2.2.2, .int v8.2, .int mT])), (aMn, .inl (K 6, 55, .inl (upd (upd (upd (upd v7 (1 : Int32).toNatClampNeg ((nN (1 : Int32).toNatClampNeg) - (15 : Int32))) (2 : Int32).toNatClampNeg (-15 : Int32)) (3 : Int32).toNatClampNeg (0 : Int32)) (6 : Int32).toNatClampNeg (((upd (upd (upd v7 (1 : Int32).toNatClampNeg ((nN (1 : Int32).toNatClampNeg) - (15 : Int32))) (2 : Int32).toNatClampNeg (-15 : Int32)) (3 : Int32).toNatClampNeg (0 : Int32)) (6 : Int32).toNatClampNeg) + (1 : Int32)))))]) (va_runV (As := [.int ((nN (1 : Int32).toNatClampNeg) - (15 : Int32))]) (rest := []) ⟨hx, hb, hml, hown, hts⟩ (c_X8_does l D K aM aMn aMt aMk aMs aMl aMx aMd mU mB mI mH mQ mW mF v1.2.1 v1.2.2.1 v1.2.2.2 mA mT ((nN (1 : Int32).toNatClampNeg) - (15 : Int32)) v8 hv8 H.size) (cwV 1 hts gX8_letsOut_X8_does rfl rfl rfl (by decide +kernel) ⟨(Nat.le_of_ble_eq_true rfl), (Nat.le_of_ble_eq_true rfl)⟩) (prV hE hK hP hD hS hA [0] rfl rfl 6 0 rfl rfl rfl) rfl rfl hl.1 rfl (lv_room (Nat.le_of_ble_eq_true rfl)) dX8_letsOut_101 ⟨(Nat.le_of_ble_eq_true rfl), (Nat.le_of_ble_eq_true rfl)⟩) hP hD hS hA [0] [1] [1, 0] rfl rfl rfl (by decide) rfl rfl (fun H locs hP hD hS => ?_)
        obtain ⟨g9, hF⟩ := oG hF
        exact fin_z (u := (v8.1, (v1.2.1, v1.2.2.1, v1.2.2.2, v8.2, upd (upd (upd (upd v7 (1 : Int32).toNatClampNeg ((nN (1 : Int32).toNatClampNeg) - (15 : Int32))) (2 : Int32).toNatClampNeg (-15 : Int32)) (3 : Int32).toNatClampNeg (0 : Int32)) (6 : Int32).toNatClampNeg (((upd (upd (upd v7 (1 : Int32).toNatClampNeg ((nN (1 : Int32).toNatClampNeg) - (15 : Int32))) (2 : Int32).toNatClampNeg (-15 : Int32)) (3 : Int32).toNatClampNeg (0 : Int32)) (6 : Int32).toNatClampNeg) + (1 : Int32))))) hF (okN_n g9) hx hb hr hlocks hK hP hD hS (Nat.le_of_ble_eq_true rfl) (Nat.le_of_ble_eq_true rfl) dX8_letsOut_104
      · have hF := oF c5 hF
        refine lv_aload_n hx hb dX8_letsOut_44 rfl (lv_at hl 1 rfl) ?_
        refine lv_bipush (v := (13 : Int32)) hx hb dX8_letsOut_45 (by decide) ?_
        refine lv_iload_n hx hb dX8_letsOut_47 rfl (lv_at hl 0 rfl) ?_
        obtain ⟨v10, hv10, hF⟩ := oB hF
        refine call_i (wr := [(aMn, .inl (K 6, 55, .inl nN))]) (wn := [(aM, .inr (6, [.ref aMn, .ref aMt, .ref aMk, .int mU, .ref aMs, .int mB, .ref aMl, .int mI, .ref aMx, .int mH, .int mQ, .int mW, .ref aMd, .int mF, .int v10.2.1, .int v10.2.2.1, .int v10.2.2.2, .int mA, .int mT])), (aMn, .inl (K 6, 55, .inl nN))]) (va_runV (As := [.int (13 : Int32), .int ((nN (1 : Int32).toNatClampNeg) - (15 : Int32))]) (rest := []) ⟨hx, hb, hml, hown, hts⟩ (c_X8_refuses l D K aM aMn aMt aMk aMs aMl aMx aMd mU mB mI mH mQ mW mF v1.2.1 v1.2.2.1 v1.2.2.2 mA mT (13 : Int32) ((nN (1 : Int32).toNatClampNeg) - (15 : Int32)) v10 hv10 H.size) (cwV 2 hts gX8_letsOut_X8_refuses rfl rfl rfl (by decide +kernel) ⟨(Nat.le_of_ble_eq_true rfl), (Nat.le_of_ble_eq_true rfl)⟩) (prV hE hK hP hD hS hA [0] rfl rfl 6 0 rfl rfl rfl) rfl rfl hl.1 rfl (lv_room (Nat.le_of_ble_eq_true rfl)) dX8_letsOut_48 ⟨(Nat.le_of_ble_eq_true rfl), (Nat.le_of_ble_eq_true rfl)⟩) hP hD hS hA [0] [1] [1, 0] rfl rfl rfl (by decide) rfl rfl (fun H locs hP hD hS => ?_)
        obtain ⟨g11, hF⟩ := oG hF
        exact fin_z (u := (v10.1, (v10.2.1, v10.2.2.1, v10.2.2.2, mA, nN))) hF (okN_n g11) hx hb hr hlocks hK hP hD hS (Nat.le_of_ble_eq_true rfl) (Nat.le_of_ble_eq_true rfl) dX8_letsOut_51
    · have hF := oT c4 hF
      refine lv_aload_n hx hb dX8_letsOut_19 rfl (lv_at hl 0 rfl) ?_
      refine lv_bipush (v := (12 : Int32)) hx hb dX8_letsOut_20 (by decide) ?_
      refine lv_iconst (v := (0 : Int32)) hx hb dX8_letsOut_22 (by decide) ?_
      obtain ⟨v12, hv12, hF⟩ := oB hF
      refine call_i (wr := [(aMn, .inl (K 6, 55, .inl nN))]) (wn := [(aM, .inr (6, [.ref aMn, .ref aMt, .ref aMk, .int mU, .ref aMs, .int mB, .ref aMl, .int mI, .ref aMx, .int mH, .int mQ, .int mW, .ref aMd, .int mF, .int v12.2.1, .int v12.2.2.1, .int v12.2.2.2, .int mA, .int mT])), (aMn, .inl (K 6, 55, .inl nN))]) (va_runV (As := [.int (12 : Int32), .int (0 : Int32)]) (rest := []) ⟨hx, hb, hml, hown, hts⟩ (c_X8_refuses l D K aM aMn aMt aMk aMs aMl aMx aMd mU mB mI mH mQ mW mF v1.2.1 v1.2.2.1 v1.2.2.2 mA mT (12 : Int32) (0 : Int32) v12 hv12 H.size) (cwV 2 hts gX8_letsOut_X8_refuses rfl rfl rfl (by decide +kernel) ⟨(Nat.le_of_ble_eq_true rfl), (Nat.le_of_ble_eq_true rfl)⟩) (prV hE hK hP hD hS hA [0] rfl rfl 6 0 rfl rfl rfl) rfl rfl hl.1 rfl (lv_room (Nat.le_of_ble_eq_true rfl)) dX8_letsOut_23 ⟨(Nat.le_of_ble_eq_true rfl), (Nat.le_of_ble_eq_true rfl)⟩) hP hD hS hA [0] [1] [1, 0] rfl rfl rfl (by decide) rfl rfl (fun H locs hP hD hS => ?_)
      obtain ⟨g13, hF⟩ := oG hF
      exact fin_z (u := (v12.1, (v12.2.1, v12.2.2.1, v12.2.2.2, mA, nN))) hF (okN_n g13) hx hb hr hlocks hK hP hD hS (Nat.le_of_ble_eq_true rfl) (Nat.le_of_ble_eq_true rfl) dX8_letsOut_26
  · have hF := oT c2 hF
    refine lv_iconst (v := (0 : Int32)) hx hb dX8_letsOut_8 (by decide) ?_
    exact fin_z (u := ((0 : Int32), (v1.2.1, v1.2.2.1, v1.2.2.2, mA, nN))) hF (okN_n (ty := .boolean) (x := (0 : Int32)) (by decide)) hx hb hr hlocks hK hP hD hS (Nat.le_of_ble_eq_true rfl) (Nat.le_of_ble_eq_true rfl) dX8_letsOut_9
abbrev RM_X8_letOut : Room := { frames := 4, cells := 0, slots := 0, locals := 86 }
abbrev MC_X8_letOut : Nat := 0
abbrev MS_X8_letOut : Nat := 0
abbrev wf_X8_letOut (K : Nat → ClassId) (aM : Nat) (aMn : Nat) (aMt : Nat) (aMk : Nat) (aMs : Nat) (aMl : Nat) (aMx : Nat) (aMd : Nat) (mB : Int32) (mI : Int32) (mH : Int32) (mQ : Int32) (mW : Int32) (mF : Int32) (v : Int32 × Int32 × Int32 × Int32 × Int32 × Int32 × Int32 × (Nat → Int32) × (Nat → Int32) × (Nat → Int32)) : va_W := [(aM, .inr (6, [.ref aMn, .ref aMt, .ref aMk, .int v.2.1, .ref aMs, .int mB, .ref aMl, .int mI, .ref aMx, .int mH, .int mQ, .int mW, .ref aMd, .int mF, .int v.2.2.1, .int v.2.2.2.1, .int v.2.2.2.2.1, .int v.2.2.2.2.2.1, .int v.2.2.2.2.2.2.1])), (aMn, .inl (K 6, 55, .inl v.2.2.2.2.2.2.2.1)), (aMt, .inl (K 7, 55, .inl v.2.2.2.2.2.2.2.2.1)), (aMk, .inl (K 8, 440, .inl v.2.2.2.2.2.2.2.2.2))]
set_option maxHeartbeats 4000000 in
set_option maxRecDepth 100000 in
theorem c_X8_letOut (l : Launch) (D : va_G) (K : Nat → ClassId) (aM : Nat) (aMn : Nat) (aMt : Nat) (aMk : Nat) (aMs : Nat) (aMl : Nat) (aMx : Nat) (aMd : Nat) (mU : Int32) (mB : Int32) (mI : Int32) (mH : Int32) (mQ : Int32) (mW : Int32) (mF : Int32) (mR : Int32) (mD : Int32) (mJ : Int32) (mA : Int32) (mT : Int32) (nN : Nat → Int32) (nT : Nat → Int32) (nK : Nat → Int32) (p1 : Int32) (v : Int32 × Int32 × Int32 × Int32 × Int32 × Int32 × Int32 × (Nat → Int32) × (Nat → Int32) × (Nat → Int32)) (hF : f_X8_letOut mU mR mD mJ mA mT nN nT nK p1 = some v) (sz : Nat) :
    (Met l yX8_letOut wsX8_letOut RM_X8_letOut (PC D (TY K) [(aM, .inr (6, [.ref aMn, .ref aMt, .ref aMk, .int mU, .ref aMs, .int mB, .ref aMl, .int mI, .ref aMx, .int mH, .int mQ, .int mW, .ref aMd, .int mF, .int mR, .int mD, .int mJ, .int mA, .int mT])), (aMn, .inl (K 6, 55, .inl nN)), (aMt, .inl (K 7, 55, .inl nT)), (aMk, .inl (K 8, 440, .inl nK))] [.ref aM, .int p1] sz) (QI D (TY K) (wf_X8_letOut K aM aMn aMt aMk aMs aMl aMx aMd mB mI mH mQ mW mF) v (va_A [(aM, .inr (6, [.ref aMn, .ref aMt, .ref aMk, .int mU, .ref aMs, .int mB, .ref aMl, .int mI, .ref aMx, .int mH, .int mQ, .int mW, .ref aMd, .int mF, .int mR, .int mD, .int mJ, .int mA, .int mT])), (aMn, .inl (K 6, 55, .inl nN)), (aMt, .inl (K 7, 55, .inl nT)), (aMk, .inl (K 8, 440, .inl nK))] sz)) MC_X8_letOut MS_X8_letOut (va_A [(aM, .inr (6, [.ref aMn, .ref aMt, .ref aMk, .int mU, .ref aMs, .int mB, .ref aMl, .int mI, .ref aMx, .int mH, .int mQ, .int mW, .ref aMd, .int mF, .int mR, .int mD, .int mJ, .int mA, .int mT])), (aMn, .inl (K 6, 55, .inl nN)), (aMt, .inl (K 7, 55, .inl nT)), (aMk, .inl (K 8, 440, .inl nK))] sz)) := by
  refine pro (Qf := fun A => QI D (TY K) (wf_X8_letOut K aM aMn aMt aMk aMs aMl aMx aMd mB mI mH mQ mW mF) v A) (cc := cX8_letOut) (maxL := 2) (ret := (some .int)) (by decide +kernel) rfl (Nat.le_of_ble_eq_true rfl) ?_
  intro p e s m args below meth c hx hb hr hts hown hlocks hml hini hK A hA hE hP hD hS ls hl
  have hown : s.vm.findClass RX8 = some m.cls := hown
  have hl : lv_has ls 2 [(0, .ref aM), (1, .int p1)] := hl
  rw [f_X8_letOut] at hF
  refine lv_aload_n hx hb dX8_letOut_0 rfl (lv_at hl 0 rfl) ?_
  obtain ⟨v1, hv1, hF⟩ := oB hF
  refine call_v (wr := [(aMk, .inl (K 8, 440, .inl nK))]) (wn := [(aM, .inr (6, [.ref aMn, .ref aMt, .ref aMk, .int mU, .ref aMs, .int mB, .ref aMl, .int mI, .ref aMx, .int mH, .int mQ, .int mW, .ref aMd, .int mF, .int mR, .int mD, .int mJ, .int mA, .int v1.1])), (aMn, .inl (K 6, 55, .inl nN)), (aMt, .inl (K 7, 55, .inl v1.2)), (aMk, .inl (K 8, 440, .inl nK))]) (va_runV (As := []) (rest := []) ⟨hx, hb, hml, hown, hts⟩ (c_X8_tries l D K aM aMn aMt aMk aMs aMl aMx aMd mU mB mI mH mQ mW mF mR mD mJ mA mT nN nT v1 hv1 s.heap.size) (cwV 0 hts gX8_letOut_X8_tries rfl rfl rfl (by decide +kernel) ⟨(Nat.le_of_ble_eq_true rfl), (Nat.le_of_ble_eq_true rfl)⟩) (prV hE hK hP hD hS hA [0, 1, 2] rfl rfl 6 0 rfl rfl rfl) rfl rfl hl.1 rfl (lv_room (Nat.le_of_ble_eq_true rfl)) dX8_letOut_1 ⟨(Nat.le_of_ble_eq_true rfl), (Nat.le_of_ble_eq_true rfl)⟩) hP hD hS hA [0, 1, 2] [3] [1, 2, 3, 0] rfl rfl rfl (by decide) rfl rfl (fun H locs hP hD hS => ?_)
  refine lv_aload_n hx hb dX8_letOut_4 rfl (lv_at hl 0 rfl) ?_
  refine lv_aload_n hx hb dX8_letOut_5 rfl (lv_at hl 0 rfl) ?_
  refine lv_iload_n hx hb dX8_letOut_6 rfl (lv_at hl 1 rfl) ?_
  obtain ⟨v2, hv2, hF⟩ := oB hF
  refine call_i (wr := [(aMt, .inl (K 7, 55, .inl v1.2)), (aMk, .inl (K 8, 440, .inl nK))]) (wn := [(aM, .inr (6, [.ref aMn, .ref aMt, .ref aMk, .int mU, .ref aMs, .int mB, .ref aMl, .int mI, .ref aMx, .int mH, .int mQ, .int mW, .ref aMd, .int mF, .int v2.2.1, .int v2.2.2.1, .int v2.2.2.2.1, .int v2.2.2.2.2.1, .int v1.1])), (aMn, .inl (K 6, 55, .inl v2.2.2.2.2.2)), (aMt, .inl (K 7, 55, .inl v1.2)), (aMk, .inl (K 8, 440, .inl nK))]) (va_runV (As := [.int p1]) (rest := [.ref aM]) ⟨hx, hb, hml, hown, hts⟩ (c_X8_letsOut l D K aM aMn aMt aMk aMs aMl aMx aMd mU mB mI mH mQ mW mF mR mD mJ mA v1.1 nN p1 v2 hv2 H.size) (cwV 1 hts gX8_letOut_X8_letsOut rfl rfl rfl (by decide +kernel) ⟨(Nat.le_of_ble_eq_true rfl), (Nat.le_of_ble_eq_true rfl)⟩) (prV hE hK hP hD hS hA [0, 1] rfl rfl 6 0 rfl rfl rfl) rfl rfl hl.1 rfl (lv_room (Nat.le_of_ble_eq_true rfl)) dX8_letOut_7 ⟨(Nat.le_of_ble_eq_true rfl), (Nat.le_of_ble_eq_true rfl)⟩) hP hD hS hA [0, 1] [2, 3] [2, 3, 0, 1] rfl rfl rfl (by decide) rfl rfl (fun H locs hP hD hS => ?_)
  obtain ⟨v3, hv3, hF⟩ := oB hF
  refine call_i (wr := [(aMn, .inl (K 6, 55, .inl v2.2.2.2.2.2))]) (wn := [(aM, .inr (6, [.ref aMn, .ref aMt, .ref aMk, .int v3.2.1, .ref aMs, .int mB, .ref aMl, .int mI, .ref aMx, .int mH, .int mQ, .int mW, .ref aMd, .int mF, .int v2.2.1, .int v2.2.2.1, .int v2.2.2.2.1, .int v2.2.2.2.2.1, .int v3.2.2.1])), (aMn, .inl (K 6, 55, .inl v2.2.2.2.2.2)), (aMt, .inl (K 7, 55, .inl v1.2)), (aMk, .inl (K 8, 440, .inl v3.2.2.2))]) (va_runV (As := [.int v2.1]) (rest := []) ⟨hx, hb, hml, hown, hts⟩ (c_X8_ends l D K aM aMn aMt aMk aMs aMl aMx aMd mU mB mI mH mQ mW mF v2.2.1 v2.2.2.1 v2.2.2.2.1 v2.2.2.2.2.1 v1.1 v1.2 nK v2.1 v3 hv3 H.size) (cwV 1 hts gX8_letOut_X8_ends rfl rfl rfl (by decide +kernel) ⟨(Nat.le_of_ble_eq_true rfl), (Nat.le_of_ble_eq_true rfl)⟩) (prV hE hK hP hD hS hA [0, 2, 3] rfl rfl 6 0 rfl rfl rfl) rfl rfl hl.1 rfl (lv_room (Nat.le_of_ble_eq_true rfl)) dX8_letOut_10 ⟨(Nat.le_of_ble_eq_true rfl), (Nat.le_of_ble_eq_true rfl)⟩) hP hD hS hA [0, 2, 3] [1] [1, 0, 2, 3] rfl rfl rfl (by decide) rfl rfl (fun H locs hP hD hS => ?_)
  exact fin_i (u := (v3.1, (v3.2.1, v2.2.1, v2.2.2.1, v2.2.2.2.1, v2.2.2.2.2.1, v3.2.2.1, v2.2.2.2.2.2, v1.2, v3.2.2.2))) hF hx hb hr hlocks hK hP hD hS (Nat.le_of_ble_eq_true rfl) (Nat.le_of_ble_eq_true rfl) dX8_letOut_13
abbrev RM_X8_wagered : Room := { frames := 2, cells := 0, slots := 0, locals := 43 }
abbrev MC_X8_wagered : Nat := 0
abbrev MS_X8_wagered : Nat := 0
abbrev wf_X8_wagered (K : Nat → ClassId) (aM : Nat) (aMn : Nat) (aMt : Nat) (aMk : Nat) (aMs : Nat) (aMl : Nat) (aMx : Nat) (aMd : Nat) (mU : Int32) (mB : Int32) (mI : Int32) (mH : Int32) (mQ : Int32) (mW : Int32) (mF : Int32) (mR : Int32) (mD : Int32) (mJ : Int32) (mA : Int32) (mT : Int32) (nN : Nat → Int32) (v : Int32 × Unit) : va_W := [(aM, .inr (6, [.ref aMn, .ref aMt, .ref aMk, .int mU, .ref aMs, .int mB, .ref aMl, .int mI, .ref aMx, .int mH, .int mQ, .int mW, .ref aMd, .int mF, .int mR, .int mD, .int mJ, .int mA, .int mT])), (aMn, .inl (K 6, 55, .inl nN))]
set_option maxHeartbeats 4000000 in
set_option maxRecDepth 100000 in
theorem c_X8_wagered (l : Launch) (D : va_G) (K : Nat → ClassId) (aM : Nat) (aMn : Nat) (aMt : Nat) (aMk : Nat) (aMs : Nat) (aMl : Nat) (aMx : Nat) (aMd : Nat) (mU : Int32) (mB : Int32) (mI : Int32) (mH : Int32) (mQ : Int32) (mW : Int32) (mF : Int32) (mR : Int32) (mD : Int32) (mJ : Int32) (mA : Int32) (mT : Int32) (nN : Nat → Int32)  (v : Int32 × Unit) (hF : f_X8_wagered nN = some v) (sz : Nat) :
    (Met l yX8_wagered wsX8_wagered RM_X8_wagered (PC D (TY K) [(aM, .inr (6, [.ref aMn, .ref aMt, .ref aMk, .int mU, .ref aMs, .int mB, .ref aMl, .int mI, .ref aMx, .int mH, .int mQ, .int mW, .ref aMd, .int mF, .int mR, .int mD, .int mJ, .int mA, .int mT])), (aMn, .inl (K 6, 55, .inl nN))] [.ref aM] sz) (QI D (TY K) (wf_X8_wagered K aM aMn aMt aMk aMs aMl aMx aMd mU mB mI mH mQ mW mF mR mD mJ mA mT nN) v (va_A [(aM, .inr (6, [.ref aMn, .ref aMt, .ref aMk, .int mU, .ref aMs, .int mB, .ref aMl, .int mI, .ref aMx, .int mH, .int mQ, .int mW, .ref aMd, .int mF, .int mR, .int mD, .int mJ, .int mA, .int mT])), (aMn, .inl (K 6, 55, .inl nN))] sz)) MC_X8_wagered MS_X8_wagered (va_A [(aM, .inr (6, [.ref aMn, .ref aMt, .ref aMk, .int mU, .ref aMs, .int mB, .ref aMl, .int mI, .ref aMx, .int mH, .int mQ, .int mW, .ref aMd, .int mF, .int mR, .int mD, .int mJ, .int mA, .int mT])), (aMn, .inl (K 6, 55, .inl nN))] sz)) := by
  refine pro (Qf := fun A => QI D (TY K) (wf_X8_wagered K aM aMn aMt aMk aMs aMl aMx aMd mU mB mI mH mQ mW mF mR mD mJ mA mT nN) v A) (cc := cX8_wagered) (maxL := 3) (ret := (some .int)) (by decide +kernel) rfl (Nat.le_of_ble_eq_true rfl) ?_
  intro p e s m args below meth c hx hb hr hts hown hlocks hml hini hK A hA hE hP hD hS ls hl
  have hown : s.vm.findClass RX8 = some m.cls := hown
  have hl : lv_has ls 3 [(0, .ref aM)] := hl
  have loop_4 : ∀  (n : Nat) (y4_1 : Int32) (y4_2 : Int32), f_X8_wagered_L4 nN n y4_1 y4_2 = some v → ∀ (H : Heap) (locs : List Loc), va_P D vwC7 [(aM, .inr (6, [.ref aMn, .ref aMt, .ref aMk, .int mU, .ref aMs, .int mB, .ref aMl, .int mI, .ref aMx, .int mH, .int mQ, .int mW, .ref aMd, .int mF, .int mR, .int mD, .int mJ, .int mA, .int mT])), (aMn, .inl (K 6, 55, .inl nN))] H → va_D A [(aM, .inr (6, [.ref aMn, .ref aMt, .ref aMk, .int mU, .ref aMs, .int mB, .ref aMl, .int mI, .ref aMx, .int mH, .int mQ, .int mW, .ref aMd, .int mF, .int mR, .int mD, .int mJ, .int mA, .int mT])), (aMn, .inl (K 6, 55, .inl nN))] → va_S A s.heap H locs → ∀ ls : Array Slot, lv_has ls 3 [(0, .ref aM), (1, .int y4_1), (2, .int y4_2)] → W p l e RM_X8_wagered s m args below meth c H locs 0 0 (MQ below (QI D (TY K) (wf_X8_wagered K aM aMn aMt aMk aMs aMl aMx aMd mU mB mI mH mQ mW mF mR mD mJ mA mT nN) v A) args s MC_X8_wagered MS_X8_wagered A) (F0 m 4 ls []) := by
    intro  n
    induction n with
    | zero =>
      intro y4_1 y4_2 hF
      exact nomatch hF
    | succ n ih =>
      intro y4_1 y4_2 hF H locs hP hD hS ls hl
      rw [f_X8_wagered_L4.eq_2] at hF
      refine lv_iload_n hx hb dX8_wagered_4 rfl (lv_at hl 2 rfl) ?_
      refine lv_aload_n hx hb dX8_wagered_5 rfl (lv_at hl 0 rfl) ?_
      refine va_get (D := D) (ci := 6) (v := .ref aMn) (C := RX8) (T := TX8) (N := 19) hx hb hts (fun _ h => List.mem_cons_of_mem _ (List.mem_append_left _ (List.mem_append_right _ h))) hown hK hP 0 rfl rfl 0 (by decide) (hts (.fieldLink RX8 9 "BarometerClubModel" "now" "[I") (List.mem_of_getElem? (i := 1) rfl)) (fun _ h9 => h9) rfl dX8_wagered_6 ?_
      refine lv_iconst (v := (0 : Int32)) hx hb dX8_wagered_9 (by decide) ?_
      refine va_iald hx hb hK hP 1 6 rfl rfl (inB_in (by decide : inB (0 : Int32) 55 = true)) dX8_wagered_10 ?_
      refine lv_icmp_ge (tgt := 31) hx hb dX8_wagered_11 (by decide) (fun c1 => ?_) (fun c1 => ?_)
      · have hF := oT c1 hF
        refine lv_iload_n hx hb dX8_wagered_31 rfl (lv_at hl 1 rfl) ?_
        exact fin_i (u := (y4_1, ())) hF hx hb hr hlocks hK hP hD hS (Nat.le_of_ble_eq_true rfl) (Nat.le_of_ble_eq_true rfl) dX8_wagered_32
      · have hF := oF c1 hF
        refine lv_aload_n hx hb dX8_wagered_14 rfl (lv_at hl 0 rfl) ?_
        refine lv_iload_n hx hb dX8_wagered_15 rfl (lv_at hl 2 rfl) ?_
        obtain ⟨v2, hv2, hF⟩ := oB hF
        refine call_i (wr := []) (wn := [(aM, .inr (6, [.ref aMn, .ref aMt, .ref aMk, .int mU, .ref aMs, .int mB, .ref aMl, .int mI, .ref aMx, .int mH, .int mQ, .int mW, .ref aMd, .int mF, .int mR, .int mD, .int mJ, .int mA, .int mT])), (aMn, .inl (K 6, 55, .inl nN))]) (va_runV (As := [.int y4_2]) (rest := []) ⟨hx, hb, hml, hown, hts⟩ (c_X8_hasWagered l D K aM aMn aMt aMk aMs aMl aMx aMd mU mB mI mH mQ mW mF mR mD mJ mA mT nN y4_2 v2 hv2 H.size) (cwV 1 hts gX8_wagered_X8_hasWagered rfl rfl rfl (by decide +kernel) ⟨(Nat.le_of_ble_eq_true rfl), (Nat.le_of_ble_eq_true rfl)⟩) (prV hE hK hP hD hS hA [0, 1] rfl rfl 6 0 rfl rfl rfl) rfl rfl hl.1 rfl (lv_room (Nat.le_of_ble_eq_true rfl)) dX8_wagered_16 ⟨(Nat.le_of_ble_eq_true rfl), (Nat.le_of_ble_eq_true rfl)⟩) hP hD hS hA [0, 1] [] [0, 1] rfl rfl rfl (by decide) rfl rfl (fun H locs hP hD hS => ?_)
        refine lv_if_eq (tgt := 25) hx hb dX8_wagered_19 (by decide) (fun c3 => ?_) (fun c3 => ?_)
        · have hF := oT c3 hF
          refine lv_iinc (v := y4_2 + (1 : Int32)) (lv' := [(2, .int (y4_2 + (1 : Int32))), (0, .ref aM), (1, .int y4_1)]) hx hb dX8_wagered_25 hl (k := 2) rfl (by first | rfl | decide) (by decide) rfl (fun ls hl => ?_)
          refine lv_goto (tgt := 4) hx hb dX8_wagered_28 (by decide) ?_
          exact ih y4_1 (y4_2 + (1 : Int32)) hF _ _ hP hD hS _ (lv_sub hl [1, 2, 0] rfl)
        · have hF := oF c3 hF
          refine lv_iinc (v := y4_1 + (1 : Int32)) (lv' := [(1, .int (y4_1 + (1 : Int32))), (0, .ref aM), (2, .int y4_2)]) hx hb dX8_wagered_22 hl (k := 1) rfl (by first | rfl | decide) (by decide) rfl (fun ls hl => ?_)
          refine lv_iinc (v := y4_2 + (1 : Int32)) (lv' := [(2, .int (y4_2 + (1 : Int32))), (1, .int (y4_1 + (1 : Int32))), (0, .ref aM)]) hx hb dX8_wagered_25 hl (k := 2) rfl (by first | rfl | decide) (by decide) rfl (fun ls hl => ?_)
          refine lv_goto (tgt := 4) hx hb dX8_wagered_28 (by decide) ?_
          exact ih (y4_1 + (1 : Int32)) (y4_2 + (1 : Int32)) hF _ _ hP hD hS _ (lv_sub hl [2, 1, 0] rfl)
  rw [f_X8_wagered] at hF
  refine lv_iconst (v := (0 : Int32)) hx hb dX8_wagered_0 (by decide) ?_
  refine lv_istore_n (lv' := [(1, .int (0 : Int32)), (0, .ref aM)]) hx hb dX8_wagered_1 rfl hl (by decide) rfl (fun ls hl => ?_)
  refine lv_iconst (v := (0 : Int32)) hx hb dX8_wagered_2 (by decide) ?_
  refine lv_istore_n (lv' := [(2, .int (0 : Int32)), (1, .int (0 : Int32)), (0, .ref aM)]) hx hb dX8_wagered_3 rfl hl (by decide) rfl (fun ls hl => ?_)
  exact loop_4  FU (0 : Int32) (0 : Int32) hF _ _ hP hD hS _ (lv_sub hl [2, 1, 0] rfl)
abbrev RM_X8_needleAt : Room := { frames := 1, cells := 0, slots := 0, locals := 22 }
abbrev MC_X8_needleAt : Nat := 0
abbrev MS_X8_needleAt : Nat := 0
abbrev wf_X8_needleAt (K : Nat → ClassId) (aM : Nat) (aMn : Nat) (aMt : Nat) (aMk : Nat) (aMs : Nat) (aMl : Nat) (aMx : Nat) (aMd : Nat) (mU : Int32) (mB : Int32) (mI : Int32) (mH : Int32) (mQ : Int32) (mW : Int32) (mF : Int32) (mR : Int32) (mD : Int32) (mJ : Int32) (mA : Int32) (mT : Int32) (nN : Nat → Int32) (v : Int32 × Unit) : va_W := [(aM, .inr (6, [.ref aMn, .ref aMt, .ref aMk, .int mU, .ref aMs, .int mB, .ref aMl, .int mI, .ref aMx, .int mH, .int mQ, .int mW, .ref aMd, .int mF, .int mR, .int mD, .int mJ, .int mA, .int mT])), (aMn, .inl (K 6, 55, .inl nN))]
set_option maxHeartbeats 4000000 in
set_option maxRecDepth 100000 in
theorem c_X8_needleAt (l : Launch) (D : va_G) (K : Nat → ClassId) (aM : Nat) (aMn : Nat) (aMt : Nat) (aMk : Nat) (aMs : Nat) (aMl : Nat) (aMx : Nat) (aMd : Nat) (mU : Int32) (mB : Int32) (mI : Int32) (mH : Int32) (mQ : Int32) (mW : Int32) (mF : Int32) (mR : Int32) (mD : Int32) (mJ : Int32) (mA : Int32) (mT : Int32) (nN : Nat → Int32) (p1 : Int32) (p2 : Int32) (v : Int32 × Unit) (hF : f_X8_needleAt nN p1 p2 = some v) (sz : Nat) :
    (Met l yX8_needleAt wsX8_needleAt RM_X8_needleAt (PC D (TY K) [(aM, .inr (6, [.ref aMn, .ref aMt, .ref aMk, .int mU, .ref aMs, .int mB, .ref aMl, .int mI, .ref aMx, .int mH, .int mQ, .int mW, .ref aMd, .int mF, .int mR, .int mD, .int mJ, .int mA, .int mT])), (aMn, .inl (K 6, 55, .inl nN))] [.ref aM, .int p1, .int p2] sz) (QI D (TY K) (wf_X8_needleAt K aM aMn aMt aMk aMs aMl aMx aMd mU mB mI mH mQ mW mF mR mD mJ mA mT nN) v (va_A [(aM, .inr (6, [.ref aMn, .ref aMt, .ref aMk, .int mU, .ref aMs, .int mB, .ref aMl, .int mI, .ref aMx, .int mH, .int mQ, .int mW, .ref aMd, .int mF, .int mR, .int mD, .int mJ, .int mA, .int mT])), (aMn, .inl (K 6, 55, .inl nN))] sz)) MC_X8_needleAt MS_X8_needleAt (va_A [(aM, .inr (6, [.ref aMn, .ref aMt, .ref aMk, .int mU, .ref aMs, .int mB, .ref aMl, .int mI, .ref aMx, .int mH, .int mQ, .int mW, .ref aMd, .int mF, .int mR, .int mD, .int mJ, .int mA, .int mT])), (aMn, .inl (K 6, 55, .inl nN))] sz)) := by
  refine pro (Qf := fun A => QI D (TY K) (wf_X8_needleAt K aM aMn aMt aMk aMs aMl aMx aMd mU mB mI mH mQ mW mF mR mD mJ mA mT nN) v A) (cc := cX8_needleAt) (maxL := 3) (ret := (some .int)) (by decide +kernel) rfl (Nat.le_of_ble_eq_true rfl) ?_
  intro p e s m args below meth c hx hb hr hts hown hlocks hml hini hK A hA hE hP hD hS ls hl
  have hown : s.vm.findClass RX8 = some m.cls := hown
  have hl : lv_has ls 3 [(0, .ref aM), (1, .int p1), (2, .int p2)] := hl
  rw [f_X8_needleAt] at hF
  refine lv_iload_n hx hb dX8_needleAt_0 rfl (lv_at hl 2 rfl) ?_
  refine lv_bipush (v := (12 : Int32)) hx hb dX8_needleAt_1 (by decide) ?_
  refine lv_aload_n hx hb dX8_needleAt_3 rfl (lv_at hl 0 rfl) ?_
  refine lv_iload_n hx hb dX8_needleAt_4 rfl (lv_at hl 1 rfl) ?_
  refine lv_iconst (v := (1 : Int32)) hx hb dX8_needleAt_5 (by decide) ?_
  obtain ⟨v1, hv1, hF⟩ := oB hF
  refine call_i (wr := []) (wn := [(aM, .inr (6, [.ref aMn, .ref aMt, .ref aMk, .int mU, .ref aMs, .int mB, .ref aMl, .int mI, .ref aMx, .int mH, .int mQ, .int mW, .ref aMd, .int mF, .int mR, .int mD, .int mJ, .int mA, .int mT])), (aMn, .inl (K 6, 55, .inl nN))]) (va_runV (As := [.int p1, .int (1 : Int32)]) (rest := [.int (12 : Int32), .int p2]) ⟨hx, hb, hml, hown, hts⟩ (c_X8_of l D K aM aMn aMt aMk aMs aMl aMx aMd mU mB mI mH mQ mW mF mR mD mJ mA mT nN p1 (1 : Int32) v1 hv1 s.heap.size) (cwV 2 hts gX8_needleAt_X8_of rfl rfl rfl (by decide +kernel) ⟨(Nat.le_of_ble_eq_true rfl), (Nat.le_of_ble_eq_true rfl)⟩) (prV hE hK hP hD hS hA [0, 1] rfl rfl 6 0 rfl rfl rfl) rfl rfl hl.1 rfl (lv_room (Nat.le_of_ble_eq_true rfl)) dX8_needleAt_6 ⟨(Nat.le_of_ble_eq_true rfl), (Nat.le_of_ble_eq_true rfl)⟩) hP hD hS hA [0, 1] [] [0, 1] rfl rfl rfl (by decide) rfl rfl (fun H locs hP hD hS => ?_)
  refine lv_imul hx hb dX8_needleAt_9 ?_
  refine lv_isub hx hb dX8_needleAt_10 ?_
  exact fin_i (u := (p2 - ((12 : Int32) * v1.1), ())) hF hx hb hr hlocks hK hP hD hS (Nat.le_of_ble_eq_true rfl) (Nat.le_of_ble_eq_true rfl) dX8_needleAt_11
abbrev RM_X8_winnersAt : Room := { frames := 2, cells := 0, slots := 0, locals := 44 }
abbrev MC_X8_winnersAt : Nat := 0
abbrev MS_X8_winnersAt : Nat := 0
abbrev wf_X8_winnersAt (K : Nat → ClassId) (aM : Nat) (aMn : Nat) (aMt : Nat) (aMk : Nat) (aMs : Nat) (aMl : Nat) (aMx : Nat) (aMd : Nat) (mU : Int32) (mB : Int32) (mI : Int32) (mH : Int32) (mQ : Int32) (mW : Int32) (mF : Int32) (mR : Int32) (mD : Int32) (mJ : Int32) (mA : Int32) (mT : Int32) (nN : Nat → Int32) (v : Int32 × Unit) : va_W := [(aM, .inr (6, [.ref aMn, .ref aMt, .ref aMk, .int mU, .ref aMs, .int mB, .ref aMl, .int mI, .ref aMx, .int mH, .int mQ, .int mW, .ref aMd, .int mF, .int mR, .int mD, .int mJ, .int mA, .int mT])), (aMn, .inl (K 6, 55, .inl nN))]
set_option maxHeartbeats 4000000 in
set_option maxRecDepth 100000 in
theorem c_X8_winnersAt (l : Launch) (D : va_G) (K : Nat → ClassId) (aM : Nat) (aMn : Nat) (aMt : Nat) (aMk : Nat) (aMs : Nat) (aMl : Nat) (aMx : Nat) (aMd : Nat) (mU : Int32) (mB : Int32) (mI : Int32) (mH : Int32) (mQ : Int32) (mW : Int32) (mF : Int32) (mR : Int32) (mD : Int32) (mJ : Int32) (mA : Int32) (mT : Int32) (nN : Nat → Int32) (p1 : Int32) (v : Int32 × Unit) (hF : f_X8_winnersAt nN p1 = some v) (sz : Nat) :
    (Met l yX8_winnersAt wsX8_winnersAt RM_X8_winnersAt (PC D (TY K) [(aM, .inr (6, [.ref aMn, .ref aMt, .ref aMk, .int mU, .ref aMs, .int mB, .ref aMl, .int mI, .ref aMx, .int mH, .int mQ, .int mW, .ref aMd, .int mF, .int mR, .int mD, .int mJ, .int mA, .int mT])), (aMn, .inl (K 6, 55, .inl nN))] [.ref aM, .int p1] sz) (QI D (TY K) (wf_X8_winnersAt K aM aMn aMt aMk aMs aMl aMx aMd mU mB mI mH mQ mW mF mR mD mJ mA mT nN) v (va_A [(aM, .inr (6, [.ref aMn, .ref aMt, .ref aMk, .int mU, .ref aMs, .int mB, .ref aMl, .int mI, .ref aMx, .int mH, .int mQ, .int mW, .ref aMd, .int mF, .int mR, .int mD, .int mJ, .int mA, .int mT])), (aMn, .inl (K 6, 55, .inl nN))] sz)) MC_X8_winnersAt MS_X8_winnersAt (va_A [(aM, .inr (6, [.ref aMn, .ref aMt, .ref aMk, .int mU, .ref aMs, .int mB, .ref aMl, .int mI, .ref aMx, .int mH, .int mQ, .int mW, .ref aMd, .int mF, .int mR, .int mD, .int mJ, .int mA, .int mT])), (aMn, .inl (K 6, 55, .inl nN))] sz)) := by
  refine pro (Qf := fun A => QI D (TY K) (wf_X8_winnersAt K aM aMn aMt aMk aMs aMl aMx aMd mU mB mI mH mQ mW mF mR mD mJ mA mT nN) v A) (cc := cX8_winnersAt) (maxL := 6) (ret := (some .int)) (by decide +kernel) rfl (Nat.le_of_ble_eq_true rfl) ?_
  intro p e s m args below meth c hx hb hr hts hown hlocks hml hini hK A hA hE hP hD hS ls hl
  have hown : s.vm.findClass RX8 = some m.cls := hown
  have hl : lv_has ls 6 [(0, .ref aM), (1, .int p1)] := hl
  have loop_8 : ∀ (y8_1 : Int32) (n : Nat) (y8_2 : Int32) (y8_3 : Int32) (y8_4 : Int32), f_X8_winnersAt_L8 nN y8_1 n y8_2 y8_3 y8_4 = some v → ∀ (H : Heap) (locs : List Loc), va_P D vwC7 [(aM, .inr (6, [.ref aMn, .ref aMt, .ref aMk, .int mU, .ref aMs, .int mB, .ref aMl, .int mI, .ref aMx, .int mH, .int mQ, .int mW, .ref aMd, .int mF, .int mR, .int mD, .int mJ, .int mA, .int mT])), (aMn, .inl (K 6, 55, .inl nN))] H → va_D A [(aM, .inr (6, [.ref aMn, .ref aMt, .ref aMk, .int mU, .ref aMs, .int mB, .ref aMl, .int mI, .ref aMx, .int mH, .int mQ, .int mW, .ref aMd, .int mF, .int mR, .int mD, .int mJ, .int mA, .int mT])), (aMn, .inl (K 6, 55, .inl nN))] → va_S A s.heap H locs → ∀ ls : Array Slot, lv_has ls 6 [(0, .ref aM), (1, .int y8_1), (2, .int y8_2), (3, .int y8_3), (4, .int y8_4)] → W p l e RM_X8_winnersAt s m args below meth c H locs 0 0 (MQ below (QI D (TY K) (wf_X8_winnersAt K aM aMn aMt aMk aMs aMl aMx aMd mU mB mI mH mQ mW mF mR mD mJ mA mT nN) v A) args s MC_X8_winnersAt MS_X8_winnersAt A) (F0 m 8 ls []) := by
    intro y8_1 n
    induction n with
    | zero =>
      intro y8_2 y8_3 y8_4 hF
      exact nomatch hF
    | succ n ih =>
      intro y8_2 y8_3 y8_4 hF H locs hP hD hS ls hl
      rw [f_X8_winnersAt_L8.eq_2] at hF
      refine lv_iload hx hb dX8_winnersAt_8 (lv_at hl 4 rfl) ?_
      refine lv_aload_n hx hb dX8_winnersAt_10 rfl (lv_at hl 0 rfl) ?_
      refine va_get (D := D) (ci := 6) (v := .ref aMn) (C := RX8) (T := TX8) (N := 19) hx hb hts (fun _ h => List.mem_cons_of_mem _ (List.mem_append_left _ (List.mem_append_right _ h))) hown hK hP 0 rfl rfl 0 (by decide) (hts (.fieldLink RX8 9 "BarometerClubModel" "now" "[I") (List.mem_of_getElem? (i := 2) rfl)) (fun _ h9 => h9) rfl dX8_winnersAt_11 ?_
      refine lv_iconst (v := (0 : Int32)) hx hb dX8_winnersAt_14 (by decide) ?_
      refine va_iald hx hb hK hP 1 6 rfl rfl (inB_in (by decide : inB (0 : Int32) 55 = true)) dX8_winnersAt_15 ?_
      refine lv_icmp_ge (tgt := 95) hx hb dX8_winnersAt_16 (by decide) (fun c1 => ?_) (fun c1 => ?_)
      · have hF := oT c1 hF
        refine lv_iload_n hx hb dX8_winnersAt_95 rfl (lv_at hl 2 rfl) ?_
        exact fin_i (u := (y8_2, ())) hF hx hb hr hlocks hK hP hD hS (Nat.le_of_ble_eq_true rfl) (Nat.le_of_ble_eq_true rfl) dX8_winnersAt_96
      · have hF := oF c1 hF
        refine lv_aload_n hx hb dX8_winnersAt_19 rfl (lv_at hl 0 rfl) ?_
        refine lv_iload hx hb dX8_winnersAt_20 (lv_at hl 4 rfl) ?_
        obtain ⟨v2, hv2, hF⟩ := oB hF
        refine call_i (wr := []) (wn := [(aM, .inr (6, [.ref aMn, .ref aMt, .ref aMk, .int mU, .ref aMs, .int mB, .ref aMl, .int mI, .ref aMx, .int mH, .int mQ, .int mW, .ref aMd, .int mF, .int mR, .int mD, .int mJ, .int mA, .int mT])), (aMn, .inl (K 6, 55, .inl nN))]) (va_runV (As := [.int y8_4]) (rest := []) ⟨hx, hb, hml, hown, hts⟩ (c_X8_hasWagered l D K aM aMn aMt aMk aMs aMl aMx aMd mU mB mI mH mQ mW mF mR mD mJ mA mT nN y8_4 v2 hv2 H.size) (cwV 1 hts gX8_winnersAt_X8_hasWagered rfl rfl rfl (by decide +kernel) ⟨(Nat.le_of_ble_eq_true rfl), (Nat.le_of_ble_eq_true rfl)⟩) (prV hE hK hP hD hS hA [0, 1] rfl rfl 6 0 rfl rfl rfl) rfl rfl hl.1 rfl (lv_room (Nat.le_of_ble_eq_true rfl)) dX8_winnersAt_22 ⟨(Nat.le_of_ble_eq_true rfl), (Nat.le_of_ble_eq_true rfl)⟩) hP hD hS hA [0, 1] [] [0, 1] rfl rfl rfl (by decide) rfl rfl (fun H locs hP hD hS => ?_)
        refine lv_if_eq (tgt := 89) hx hb dX8_winnersAt_25 (by decide) (fun c3 => ?_) (fun c3 => ?_)
        · have hF := oT c3 hF
          refine lv_iinc (v := y8_4 + (1 : Int32)) (lv' := [(4, .int (y8_4 + (1 : Int32))), (0, .ref aM), (1, .int y8_1), (2, .int y8_2), (3, .int y8_3)]) hx hb dX8_winnersAt_89 hl (k := 4) rfl (by first | rfl | decide) (by decide) rfl (fun ls hl => ?_)
          refine lv_goto (tgt := 8) hx hb dX8_winnersAt_92 (by decide) ?_
          exact ih y8_2 y8_3 (y8_4 + (1 : Int32)) hF _ _ hP hD hS _ (lv_sub hl [1, 2, 3, 4, 0] rfl)
        · have hF := oF c3 hF
          refine lv_aload_n hx hb dX8_winnersAt_28 rfl (lv_at hl 0 rfl) ?_
          refine lv_iload hx hb dX8_winnersAt_29 (lv_at hl 4 rfl) ?_
          refine lv_iconst (v := (4 : Int32)) hx hb dX8_winnersAt_31 (by decide) ?_
          obtain ⟨v4, hv4, hF⟩ := oB hF
          refine call_i (wr := []) (wn := [(aM, .inr (6, [.ref aMn, .ref aMt, .ref aMk, .int mU, .ref aMs, .int mB, .ref aMl, .int mI, .ref aMx, .int mH, .int mQ, .int mW, .ref aMd, .int mF, .int mR, .int mD, .int mJ, .int mA, .int mT])), (aMn, .inl (K 6, 55, .inl nN))]) (va_runV (As := [.int y8_4, .int (4 : Int32)]) (rest := []) ⟨hx, hb, hml, hown, hts⟩ (c_X8_of l D K aM aMn aMt aMk aMs aMl aMx aMd mU mB mI mH mQ mW mF mR mD mJ mA mT nN y8_4 (4 : Int32) v4 hv4 H.size) (cwV 2 hts gX8_winnersAt_X8_of rfl rfl rfl (by decide +kernel) ⟨(Nat.le_of_ble_eq_true rfl), (Nat.le_of_ble_eq_true rfl)⟩) (prV hE hK hP hD hS hA [0, 1] rfl rfl 6 0 rfl rfl rfl) rfl rfl hl.1 rfl (lv_room (Nat.le_of_ble_eq_true rfl)) dX8_winnersAt_32 ⟨(Nat.le_of_ble_eq_true rfl), (Nat.le_of_ble_eq_true rfl)⟩) hP hD hS hA [0, 1] [] [0, 1] rfl rfl rfl (by decide) rfl rfl (fun H locs hP hD hS => ?_)
          refine lv_iconst (v := (1 : Int32)) hx hb dX8_winnersAt_35 (by decide) ?_
          refine lv_icmp_ne (tgt := 42) hx hb dX8_winnersAt_36 (by decide) (fun c5 => ?_) (fun c5 => ?_)
          · have hF := oF c5 hF
            refine lv_aload_n hx hb dX8_winnersAt_42 rfl (lv_at hl 0 rfl) ?_
            refine lv_iload hx hb dX8_winnersAt_43 (lv_at hl 4 rfl) ?_
            refine lv_iconst (v := (2 : Int32)) hx hb dX8_winnersAt_45 (by decide) ?_
            obtain ⟨v6, hv6, hF⟩ := oB hF
            refine call_i (wr := []) (wn := [(aM, .inr (6, [.ref aMn, .ref aMt, .ref aMk, .int mU, .ref aMs, .int mB, .ref aMl, .int mI, .ref aMx, .int mH, .int mQ, .int mW, .ref aMd, .int mF, .int mR, .int mD, .int mJ, .int mA, .int mT])), (aMn, .inl (K 6, 55, .inl nN))]) (va_runV (As := [.int y8_4, .int (2 : Int32)]) (rest := []) ⟨hx, hb, hml, hown, hts⟩ (c_X8_of l D K aM aMn aMt aMk aMs aMl aMx aMd mU mB mI mH mQ mW mF mR mD mJ mA mT nN y8_4 (2 : Int32) v6 hv6 H.size) (cwV 2 hts gX8_winnersAt_X8_of rfl rfl rfl (by decide +kernel) ⟨(Nat.le_of_ble_eq_true rfl), (Nat.le_of_ble_eq_true rfl)⟩) (prV hE hK hP hD hS hA [0, 1] rfl rfl 6 0 rfl rfl rfl) rfl rfl hl.1 rfl (lv_room (Nat.le_of_ble_eq_true rfl)) dX8_winnersAt_46 ⟨(Nat.le_of_ble_eq_true rfl), (Nat.le_of_ble_eq_true rfl)⟩) hP hD hS hA [0, 1] [] [0, 1] rfl rfl rfl (by decide) rfl rfl (fun H locs hP hD hS => ?_)
            refine lv_aload_n hx hb dX8_winnersAt_49 rfl (lv_at hl 0 rfl) ?_
            refine lv_iload hx hb dX8_winnersAt_50 (lv_at hl 4 rfl) ?_
            refine lv_iload_n hx hb dX8_winnersAt_52 rfl (lv_at hl 1 rfl) ?_
            obtain ⟨v7, hv7, hF⟩ := oB hF
            refine call_i (wr := []) (wn := [(aM, .inr (6, [.ref aMn, .ref aMt, .ref aMk, .int mU, .ref aMs, .int mB, .ref aMl, .int mI, .ref aMx, .int mH, .int mQ, .int mW, .ref aMd, .int mF, .int mR, .int mD, .int mJ, .int mA, .int mT])), (aMn, .inl (K 6, 55, .inl nN))]) (va_runV (As := [.int y8_4, .int y8_1]) (rest := [.int v6.1]) ⟨hx, hb, hml, hown, hts⟩ (c_X8_needleAt l D K aM aMn aMt aMk aMs aMl aMx aMd mU mB mI mH mQ mW mF mR mD mJ mA mT nN y8_4 y8_1 v7 hv7 H.size) (cwV 2 hts gX8_winnersAt_X8_needleAt rfl rfl rfl (by decide +kernel) ⟨(Nat.le_of_ble_eq_true rfl), (Nat.le_of_ble_eq_true rfl)⟩) (prV hE hK hP hD hS hA [0, 1] rfl rfl 6 0 rfl rfl rfl) rfl rfl hl.1 rfl (lv_room (Nat.le_of_ble_eq_true rfl)) dX8_winnersAt_53 ⟨(Nat.le_of_ble_eq_true rfl), (Nat.le_of_ble_eq_true rfl)⟩) hP hD hS hA [0, 1] [] [0, 1] rfl rfl rfl (by decide) rfl rfl (fun H locs hP hD hS => ?_)
            obtain ⟨v8, hv8, hF⟩ := oB hF
            refine call_i (wr := [(aM, .inr (6, [.ref aMn, .ref aMt, .ref aMk, .int mU, .ref aMs, .int mB, .ref aMl, .int mI, .ref aMx, .int mH, .int mQ, .int mW, .ref aMd, .int mF, .int mR, .int mD, .int mJ, .int mA, .int mT])), (aMn, .inl (K 6, 55, .inl nN))]) (wn := [(aM, .inr (6, [.ref aMn, .ref aMt, .ref aMk, .int mU, .ref aMs, .int mB, .ref aMl, .int mI, .ref aMx, .int mH, .int mQ, .int mW, .ref aMd, .int mF, .int mR, .int mD, .int mJ, .int mA, .int mT])), (aMn, .inl (K 6, 55, .inl nN))]) (va_runS (As := [.int v6.1, .int v7.1]) (rest := []) ⟨hx, hb, hml, hown, hts⟩ (c_X8_apart l D K v6.1 v7.1 v8 hv8 H.size) (va_cwS 2 hts gX8_winnersAt_X8_apart rfl rfl rfl (by decide +kernel) ⟨(Nat.le_of_ble_eq_true rfl), (Nat.le_of_ble_eq_true rfl)⟩) (prS hE hK hP hD hS hA [] rfl rfl) rfl rfl hl.1 rfl (lv_room (Nat.le_of_ble_eq_true rfl)) dX8_winnersAt_56 ⟨(Nat.le_of_ble_eq_true rfl), (Nat.le_of_ble_eq_true rfl)⟩) hP hD hS hA [] [0, 1] [0, 1] rfl rfl rfl (by decide) rfl rfl (fun H locs hP hD hS => ?_)
            refine lv_istore (lv' := [(5, .int v8.1), (0, .ref aM), (1, .int y8_1), (2, .int y8_2), (3, .int y8_3), (4, .int y8_4)]) hx hb dX8_winnersAt_59 hl (by decide) rfl (fun ls hl => ?_)
            refine lv_iload hx hb dX8_winnersAt_61 (lv_at hl 0 rfl) ?_
            refine lv_iload_n hx hb dX8_winnersAt_63 rfl (lv_at hl 4 rfl) ?_
            refine lv_icmp_ge (tgt := 69) hx hb dX8_winnersAt_64 (by decide) (fun c9 => ?_) (fun c9 => ?_)
            · have hF := oT c9 hF
              refine lv_iload hx hb dX8_winnersAt_69 (lv_at hl 0 rfl) ?_
              refine lv_iload_n hx hb dX8_winnersAt_71 rfl (lv_at hl 4 rfl) ?_
              refine lv_icmp_gt (tgt := 82) hx hb dX8_winnersAt_72 (by decide) (fun c10 => ?_) (fun c10 => ?_)
              · have hF := oT c10 hF
                refine lv_iload_n hx hb dX8_winnersAt_82 rfl (lv_at hl 4 rfl) ?_
                refine lv_iload hx hb dX8_winnersAt_83 (lv_at hl 0 rfl) ?_
                refine va_mmin hx hb (hml.trans hl.1.symm) hown (hts (.methodLink RX8 161 Lib.Math.min.name) (List.mem_of_getElem? (i := 3) rfl)) (hts (.static Lib.Math.min.name) (List.mem_of_getElem? (i := 4) rfl)) (hts (.initialized "java/lang/Math") (List.mem_of_getElem? (i := 5) rfl)) (hts (.code Lib.Math.min.name Lib.Math.min.code 2 (some .int)) (List.mem_of_getElem? (i := 6) rfl)) (Nat.le_of_ble_eq_true rfl) (Nat.le_of_ble_eq_true rfl) (Nat.le_of_ble_eq_true rfl) (Nat.le_of_ble_eq_true rfl) dX8_winnersAt_85 ?_
                refine W.eq (g2 := F0 m 88 ls [.int (jmin y8_3 v8.1)]) rfl ?_
                refine lv_istore_n (lv' := [(3, .int (jmin y8_3 v8.1)), (5, .int v8.1), (0, .ref aM), (1, .int y8_1), (2, .int y8_2), (4, .int y8_4)]) hx hb dX8_winnersAt_88 rfl hl (by decide) rfl (fun ls hl => ?_)
                refine lv_iinc (v := y8_4 + (1 : Int32)) (lv' := [(4, .int (y8_4 + (1 : Int32))), (3, .int (jmin y8_3 v8.1)), (5, .int v8.1), (0, .ref aM), (1, .int y8_1), (2, .int y8_2)]) hx hb dX8_winnersAt_89 hl (k := 5) rfl (by first | rfl | decide) (by decide) rfl (fun ls hl => ?_)
                refine lv_goto (tgt := 8) hx hb dX8_winnersAt_92 (by decide) ?_
                exact ih y8_2 (jmin y8_3 v8.1) (y8_4 + (1 : Int32)) hF _ _ hP hD hS _ (lv_sub hl [3, 4, 5, 1, 0] rfl)
              · have hF := oF c10 hF
                refine lv_iload_n hx hb dX8_winnersAt_75 rfl (lv_at hl 3 rfl) ?_
                refine lv_iconst (v := (1 : Int32)) hx hb dX8_winnersAt_76 (by decide) ?_
                refine lv_iload hx hb dX8_winnersAt_77 (lv_at hl 5 rfl) ?_
                refine lv_ishl hx hb dX8_winnersAt_79 ?_
                refine lv_ior hx hb dX8_winnersAt_80 ?_
                refine lv_istore_n (lv' := [(2, .int (y8_2 ||| ((1 : Int32) <<< (y8_4 &&& 31)))), (5, .int v8.1), (0, .ref aM), (1, .int y8_1), (3, .int y8_3), (4, .int y8_4)]) hx hb dX8_winnersAt_81 rfl hl (by decide) rfl (fun ls hl => ?_)
                refine lv_iload_n hx hb dX8_winnersAt_82 rfl (lv_at hl 4 rfl) ?_
                refine lv_iload hx hb dX8_winnersAt_83 (lv_at hl 1 rfl) ?_
                refine va_mmin hx hb (hml.trans hl.1.symm) hown (hts (.methodLink RX8 161 Lib.Math.min.name) (List.mem_of_getElem? (i := 3) rfl)) (hts (.static Lib.Math.min.name) (List.mem_of_getElem? (i := 4) rfl)) (hts (.initialized "java/lang/Math") (List.mem_of_getElem? (i := 5) rfl)) (hts (.code Lib.Math.min.name Lib.Math.min.code 2 (some .int)) (List.mem_of_getElem? (i := 6) rfl)) (Nat.le_of_ble_eq_true rfl) (Nat.le_of_ble_eq_true rfl) (Nat.le_of_ble_eq_true rfl) (Nat.le_of_ble_eq_true rfl) dX8_winnersAt_85 ?_
                refine W.eq (g2 := F0 m 88 ls [.int (jmin y8_3 v8.1)]) rfl ?_
                refine lv_istore_n (lv' := [(3, .int (jmin y8_3 v8.1)), (2, .int (y8_2 ||| ((1 : Int32) <<< (y8_4 &&& 31)))), (5, .int v8.1), (0, .ref aM), (1, .int y8_1), (4, .int y8_4)]) hx hb dX8_winnersAt_88 rfl hl (by decide) rfl (fun ls hl => ?_)
                refine lv_iinc (v := y8_4 + (1 : Int32)) (lv' := [(4, .int (y8_4 + (1 : Int32))), (3, .int (jmin y8_3 v8.1)), (2, .int (y8_2 ||| ((1 : Int32) <<< (y8_4 &&& 31)))), (5, .int v8.1), (0, .ref aM), (1, .int y8_1)]) hx hb dX8_winnersAt_89 hl (k := 5) rfl (by first | rfl | decide) (by decide) rfl (fun ls hl => ?_)
                refine lv_goto (tgt := 8) hx hb dX8_winnersAt_92 (by decide) ?_
                exact ih (y8_2 ||| ((1 : Int32) <<< (y8_4 &&& 31))) (jmin y8_3 v8.1) (y8_4 + (1 : Int32)) hF _ _ hP hD hS _ (lv_sub hl [4, 5, 2, 1, 0] rfl)
            · have hF := oF c9 hF
              refine lv_iconst (v := (0 : Int32)) hx hb dX8_winnersAt_67 (by decide) ?_
              refine lv_istore_n (lv' := [(2, .int (0 : Int32)), (5, .int v8.1), (0, .ref aM), (1, .int y8_1), (3, .int y8_3), (4, .int y8_4)]) hx hb dX8_winnersAt_68 rfl hl (by decide) rfl (fun ls hl => ?_)
              refine lv_iload hx hb dX8_winnersAt_69 (lv_at hl 1 rfl) ?_
              refine lv_iload_n hx hb dX8_winnersAt_71 rfl (lv_at hl 4 rfl) ?_
              refine lv_icmp_gt (tgt := 82) hx hb dX8_winnersAt_72 (by decide) (fun c11 => ?_) (fun c11 => ?_)
              · have hF := oT c11 hF
                refine lv_iload_n hx hb dX8_winnersAt_82 rfl (lv_at hl 4 rfl) ?_
                refine lv_iload hx hb dX8_winnersAt_83 (lv_at hl 1 rfl) ?_
                refine va_mmin hx hb (hml.trans hl.1.symm) hown (hts (.methodLink RX8 161 Lib.Math.min.name) (List.mem_of_getElem? (i := 3) rfl)) (hts (.static Lib.Math.min.name) (List.mem_of_getElem? (i := 4) rfl)) (hts (.initialized "java/lang/Math") (List.mem_of_getElem? (i := 5) rfl)) (hts (.code Lib.Math.min.name Lib.Math.min.code 2 (some .int)) (List.mem_of_getElem? (i := 6) rfl)) (Nat.le_of_ble_eq_true rfl) (Nat.le_of_ble_eq_true rfl) (Nat.le_of_ble_eq_true rfl) (Nat.le_of_ble_eq_true rfl) dX8_winnersAt_85 ?_
                refine W.eq (g2 := F0 m 88 ls [.int (jmin y8_3 v8.1)]) rfl ?_
                refine lv_istore_n (lv' := [(3, .int (jmin y8_3 v8.1)), (2, .int (0 : Int32)), (5, .int v8.1), (0, .ref aM), (1, .int y8_1), (4, .int y8_4)]) hx hb dX8_winnersAt_88 rfl hl (by decide) rfl (fun ls hl => ?_)
                refine lv_iinc (v := y8_4 + (1 : Int32)) (lv' := [(4, .int (y8_4 + (1 : Int32))), (3, .int (jmin y8_3 v8.1)), (2, .int (0 : Int32)), (5, .int v8.1), (0, .ref aM), (1, .int y8_1)]) hx hb dX8_winnersAt_89 hl (k := 5) rfl (by first | rfl | decide) (by decide) rfl (fun ls hl => ?_)
                refine lv_goto (tgt := 8) hx hb dX8_winnersAt_92 (by decide) ?_
                exact ih (0 : Int32) (jmin y8_3 v8.1) (y8_4 + (1 : Int32)) hF _ _ hP hD hS _ (lv_sub hl [4, 5, 2, 1, 0] rfl)
              · have hF := oF c11 hF
                refine lv_iload_n hx hb dX8_winnersAt_75 rfl (lv_at hl 0 rfl) ?_
                refine lv_iconst (v := (1 : Int32)) hx hb dX8_winnersAt_76 (by decide) ?_
                refine lv_iload hx hb dX8_winnersAt_77 (lv_at hl 5 rfl) ?_
                refine lv_ishl hx hb dX8_winnersAt_79 ?_
                refine lv_ior hx hb dX8_winnersAt_80 ?_
                refine lv_istore_n (lv' := [(2, .int ((0 : Int32) ||| ((1 : Int32) <<< (y8_4 &&& 31)))), (5, .int v8.1), (0, .ref aM), (1, .int y8_1), (3, .int y8_3), (4, .int y8_4)]) hx hb dX8_winnersAt_81 rfl hl (by decide) rfl (fun ls hl => ?_)
                refine lv_iload_n hx hb dX8_winnersAt_82 rfl (lv_at hl 4 rfl) ?_
                refine lv_iload hx hb dX8_winnersAt_83 (lv_at hl 1 rfl) ?_
                refine va_mmin hx hb (hml.trans hl.1.symm) hown (hts (.methodLink RX8 161 Lib.Math.min.name) (List.mem_of_getElem? (i := 3) rfl)) (hts (.static Lib.Math.min.name) (List.mem_of_getElem? (i := 4) rfl)) (hts (.initialized "java/lang/Math") (List.mem_of_getElem? (i := 5) rfl)) (hts (.code Lib.Math.min.name Lib.Math.min.code 2 (some .int)) (List.mem_of_getElem? (i := 6) rfl)) (Nat.le_of_ble_eq_true rfl) (Nat.le_of_ble_eq_true rfl) (Nat.le_of_ble_eq_true rfl) (Nat.le_of_ble_eq_true rfl) dX8_winnersAt_85 ?_
                refine W.eq (g2 := F0 m 88 ls [.int (jmin y8_3 v8.1)]) rfl ?_
                refine lv_istore_n (lv' := [(3, .int (jmin y8_3 v8.1)), (2, .int ((0 : Int32) ||| ((1 : Int32) <<< (y8_4 &&& 31)))), (5, .int v8.1), (0, .ref aM), (1, .int y8_1), (4, .int y8_4)]) hx hb dX8_winnersAt_88 rfl hl (by decide) rfl (fun ls hl => ?_)
                refine lv_iinc (v := y8_4 + (1 : Int32)) (lv' := [(4, .int (y8_4 + (1 : Int32))), (3, .int (jmin y8_3 v8.1)), (2, .int ((0 : Int32) ||| ((1 : Int32) <<< (y8_4 &&& 31)))), (5, .int v8.1), (0, .ref aM), (1, .int y8_1)]) hx hb dX8_winnersAt_89 hl (k := 5) rfl (by first | rfl | decide) (by decide) rfl (fun ls hl => ?_)
                refine lv_goto (tgt := 8) hx hb dX8_winnersAt_92 (by decide) ?_
                exact ih ((0 : Int32) ||| ((1 : Int32) <<< (y8_4 &&& 31))) (jmin y8_3 v8.1) (y8_4 + (1 : Int32)) hF _ _ hP hD hS _ (lv_sub hl [4, 5, 2, 1, 0] rfl)
          · have hF := oT c5 hF
            refine lv_goto (tgt := 89) hx hb dX8_winnersAt_39 (by decide) ?_
            refine lv_iinc (v := y8_4 + (1 : Int32)) (lv' := [(4, .int (y8_4 + (1 : Int32))), (0, .ref aM), (1, .int y8_1), (2, .int y8_2), (3, .int y8_3)]) hx hb dX8_winnersAt_89 hl (k := 4) rfl (by first | rfl | decide) (by decide) rfl (fun ls hl => ?_)
            refine lv_goto (tgt := 8) hx hb dX8_winnersAt_92 (by decide) ?_
            exact ih y8_2 y8_3 (y8_4 + (1 : Int32)) hF _ _ hP hD hS _ (lv_sub hl [1, 2, 3, 4, 0] rfl)
  rw [f_X8_winnersAt] at hF
  refine lv_iconst (v := (0 : Int32)) hx hb dX8_winnersAt_0 (by decide) ?_
  refine lv_istore_n (lv' := [(2, .int (0 : Int32)), (0, .ref aM), (1, .int p1)]) hx hb dX8_winnersAt_1 rfl hl (by decide) rfl (fun ls hl => ?_)
  refine lv_ldc (v := (100000 : Int32)) hx hb hown (hts (.constant RX8 160 (100000)) (List.mem_of_getElem? (i := 1) rfl)) dX8_winnersAt_2 ?_
  refine lv_istore_n (lv' := [(3, .int (100000 : Int32)), (2, .int (0 : Int32)), (0, .ref aM), (1, .int p1)]) hx hb dX8_winnersAt_4 rfl hl (by decide) rfl (fun ls hl => ?_)
  refine lv_iconst (v := (0 : Int32)) hx hb dX8_winnersAt_5 (by decide) ?_
  refine lv_istore (lv' := [(4, .int (0 : Int32)), (3, .int (100000 : Int32)), (2, .int (0 : Int32)), (0, .ref aM), (1, .int p1)]) hx hb dX8_winnersAt_6 hl (by decide) rfl (fun ls hl => ?_)
  exact loop_8 p1 FU (0 : Int32) (100000 : Int32) (0 : Int32) hF _ _ hP hD hS _ (lv_sub hl [3, 4, 2, 1, 0] rfl)
abbrev RM_X8_reads : Room := { frames := 3, cells := 0, slots := 0, locals := 69 }
abbrev MC_X8_reads : Nat := 0
abbrev MS_X8_reads : Nat := 0
abbrev wf_X8_reads (K : Nat → ClassId) (aM : Nat) (aMn : Nat) (aMt : Nat) (aMk : Nat) (aMs : Nat) (aMl : Nat) (aMx : Nat) (aMd : Nat) (mU : Int32) (mB : Int32) (mI : Int32) (mH : Int32) (mQ : Int32) (mW : Int32) (mF : Int32) (mT : Int32) (v : Int32 × Int32 × Int32 × Int32 × Int32 × (Nat → Int32)) : va_W := [(aM, .inr (6, [.ref aMn, .ref aMt, .ref aMk, .int mU, .ref aMs, .int mB, .ref aMl, .int mI, .ref aMx, .int mH, .int mQ, .int mW, .ref aMd, .int mF, .int v.2.1, .int v.2.2.1, .int v.2.2.2.1, .int v.2.2.2.2.1, .int mT])), (aMn, .inl (K 6, 55, .inl v.2.2.2.2.2))]
set_option maxHeartbeats 4000000 in
set_option maxRecDepth 100000 in
theorem c_X8_reads (l : Launch) (D : va_G) (K : Nat → ClassId) (aM : Nat) (aMn : Nat) (aMt : Nat) (aMk : Nat) (aMs : Nat) (aMl : Nat) (aMx : Nat) (aMd : Nat) (mU : Int32) (mB : Int32) (mI : Int32) (mH : Int32) (mQ : Int32) (mW : Int32) (mF : Int32) (mR : Int32) (mD : Int32) (mJ : Int32) (mA : Int32) (mT : Int32) (nN : Nat → Int32)  (v : Int32 × Int32 × Int32 × Int32 × Int32 × (Nat → Int32)) (hF : f_X8_reads mR mD mJ mA nN = some v) (sz : Nat) :
    (Met l yX8_reads wsX8_reads RM_X8_reads (PC D (TY K) [(aM, .inr (6, [.ref aMn, .ref aMt, .ref aMk, .int mU, .ref aMs, .int mB, .ref aMl, .int mI, .ref aMx, .int mH, .int mQ, .int mW, .ref aMd, .int mF, .int mR, .int mD, .int mJ, .int mA, .int mT])), (aMn, .inl (K 6, 55, .inl nN))] [.ref aM] sz) (QI D (TY K) (wf_X8_reads K aM aMn aMt aMk aMs aMl aMx aMd mU mB mI mH mQ mW mF mT) v (va_A [(aM, .inr (6, [.ref aMn, .ref aMt, .ref aMk, .int mU, .ref aMs, .int mB, .ref aMl, .int mI, .ref aMx, .int mH, .int mQ, .int mW, .ref aMd, .int mF, .int mR, .int mD, .int mJ, .int mA, .int mT])), (aMn, .inl (K 6, 55, .inl nN))] sz)) MC_X8_reads MS_X8_reads (va_A [(aM, .inr (6, [.ref aMn, .ref aMt, .ref aMk, .int mU, .ref aMs, .int mB, .ref aMl, .int mI, .ref aMx, .int mH, .int mQ, .int mW, .ref aMd, .int mF, .int mR, .int mD, .int mJ, .int mA, .int mT])), (aMn, .inl (K 6, 55, .inl nN))] sz)) := by
  refine pro (Qf := fun A => QI D (TY K) (wf_X8_reads K aM aMn aMt aMk aMs aMl aMx aMd mU mB mI mH mQ mW mF mT) v A) (cc := cX8_reads) (maxL := 5) (ret := (some .boolean)) (by decide +kernel) rfl (Nat.le_of_ble_eq_true rfl) ?_
  intro p e s m args below meth c hx hb hr hts hown hlocks hml hini hK A hA hE hP hD hS ls hl
  have hown : s.vm.findClass RX8 = some m.cls := hown
  have hl : lv_has ls 5 [(0, .ref aM)] := hl
  have loop_58 : ∀ (y58_1 : Int32) (y58_2 : Int32) (y58_3 : Int32) (mR_58 : Int32) (mD_58 : Int32) (mJ_58 : Int32) (mA_58 : Int32) (n : Nat) (y58_4 : Int32) (nN_58 : Nat → Int32), f_X8_reads_L58 y58_1 y58_2 y58_3 mR_58 mD_58 mJ_58 mA_58 n y58_4 nN_58 = some v → ∀ (H : Heap) (locs : List Loc), va_P D vwC7 [(aM, .inr (6, [.ref aMn, .ref aMt, .ref aMk, .int mU, .ref aMs, .int mB, .ref aMl, .int mI, .ref aMx, .int mH, .int mQ, .int mW, .ref aMd, .int mF, .int mR_58, .int mD_58, .int mJ_58, .int mA_58, .int mT])), (aMn, .inl (K 6, 55, .inl nN_58))] H → va_D A [(aM, .inr (6, [.ref aMn, .ref aMt, .ref aMk, .int mU, .ref aMs, .int mB, .ref aMl, .int mI, .ref aMx, .int mH, .int mQ, .int mW, .ref aMd, .int mF, .int mR_58, .int mD_58, .int mJ_58, .int mA_58, .int mT])), (aMn, .inl (K 6, 55, .inl nN_58))] → va_S A s.heap H locs → ∀ ls : Array Slot, lv_has ls 5 [(0, .ref aM), (1, .int y58_1), (2, .int y58_2), (3, .int y58_3), (4, .int y58_4)] → W p l e RM_X8_reads s m args below meth c H locs 0 0 (MQ below (QI D (TY K) (wf_X8_reads K aM aMn aMt aMk aMs aMl aMx aMd mU mB mI mH mQ mW mF mT) v A) args s MC_X8_reads MS_X8_reads A) (F0 m 58 ls []) := by
    intro y58_1 y58_2 y58_3 mR_58 mD_58 mJ_58 mA_58 n
    induction n with
    | zero =>
      intro y58_4 nN_58 hF
      exact nomatch hF
    | succ n ih =>
      intro y58_4 nN_58 hF H locs hP hD hS ls hl
      rw [f_X8_reads_L58.eq_2] at hF
      refine lv_iload hx hb dX8_reads_58 (lv_at hl 4 rfl) ?_
      refine lv_aload_n hx hb dX8_reads_60 rfl (lv_at hl 0 rfl) ?_
      refine va_get (D := D) (ci := 6) (v := .ref aMn) (C := RX8) (T := TX8) (N := 19) hx hb hts (fun _ h => List.mem_cons_of_mem _ (List.mem_append_left _ (List.mem_append_left _ (List.mem_append_right _ h)))) hown hK hP 0 rfl rfl 0 (by decide) (hts (.fieldLink RX8 9 "BarometerClubModel" "now" "[I") (List.mem_of_getElem? (i := 1) rfl)) (fun _ h9 => h9) rfl dX8_reads_61 ?_
      refine lv_iconst (v := (0 : Int32)) hx hb dX8_reads_64 (by decide) ?_
      refine va_iald hx hb hK hP 1 6 rfl rfl (inB_in (by decide : inB (0 : Int32) 55 = true)) dX8_reads_65 ?_
      refine lv_icmp_ge (tgt := 143) hx hb dX8_reads_66 (by decide) (fun c7 => ?_) (fun c7 => ?_)
      · have hF := oT c7 hF
        refine lv_aload_n hx hb dX8_reads_143 rfl (lv_at hl 0 rfl) ?_
        refine va_get (D := D) (ci := 6) (v := .ref aMn) (C := RX8) (T := TX8) (N := 19) hx hb hts (fun _ h => List.mem_cons_of_mem _ (List.mem_append_left _ (List.mem_append_left _ (List.mem_append_right _ h)))) hown hK hP 0 rfl rfl 0 (by decide) (hts (.fieldLink RX8 9 "BarometerClubModel" "now" "[I") (List.mem_of_getElem? (i := 1) rfl)) (fun _ h9 => h9) rfl dX8_reads_144 ?_
        refine lv_bipush (v := (7 : Int32)) hx hb dX8_reads_147 (by decide) ?_
        refine lv_dup2_11 hx hb dX8_reads_149 rfl rfl ?_
        refine va_iald hx hb hK hP 1 6 rfl rfl (inB_in (by decide : inB (7 : Int32) 55 = true)) dX8_reads_150 ?_
        refine lv_iload_n hx hb dX8_reads_151 rfl (lv_at hl 3 rfl) ?_
        refine lv_iload_n hx hb dX8_reads_152 rfl (lv_at hl 2 rfl) ?_
        refine lv_imul hx hb dX8_reads_153 ?_
        refine lv_isub hx hb dX8_reads_154 ?_
        refine va_iast hx hb hK hP hD hS 1 6 rfl rfl (inB_in (by decide : inB (7 : Int32) 55 = true)) dX8_reads_155 (fun H locs hP hD hS => ?_)
        have hP : va_P D vwC7 [(aM, .inr (6, [.ref aMn, .ref aMt, .ref aMk, .int mU, .ref aMs, .int mB, .ref aMl, .int mI, .ref aMx, .int mH, .int mQ, .int mW, .ref aMd, .int mF, .int mR_58, .int mD_58, .int mJ_58, .int mA_58, .int mT])), (aMn, .inl (K 6, 55, .inl (upd nN_58 (7 : Int32).toNatClampNeg ((nN_58 (7 : Int32).toNatClampNeg) - (y58_3 * y58_2)))))] H := hP
        have hD : va_D A [(aM, .inr (6, [.ref aMn, .ref aMt, .ref aMk, .int mU, .ref aMs, .int mB, .ref aMl, .int mI, .ref aMx, .int mH, .int mQ, .int mW, .ref aMd, .int mF, .int mR_58, .int mD_58, .int mJ_58, .int mA_58, .int mT])), (aMn, .inl (K 6, 55, .inl (upd nN_58 (7 : Int32).toNatClampNeg ((nN_58 (7 : Int32).toNatClampNeg) - (y58_3 * y58_2)))))] := hD
        refine lv_aload_n hx hb dX8_reads_156 rfl (lv_at hl 0 rfl) ?_
        refine va_get (D := D) (ci := 6) (v := .ref aMn) (C := RX8) (T := TX8) (N := 19) hx hb hts (fun _ h => List.mem_cons_of_mem _ (List.mem_append_left _ (List.mem_append_left _ (List.mem_append_right _ h)))) hown hK hP 0 rfl rfl 0 (by decide) (hts (.fieldLink RX8 9 "BarometerClubModel" "now" "[I") (List.mem_of_getElem? (i := 1) rfl)) (fun _ h9 => h9) rfl dX8_reads_157 ?_
        refine lv_bipush (v := (9 : Int32)) hx hb dX8_reads_160 (by decide) ?_
        refine lv_dup2_11 hx hb dX8_reads_162 rfl rfl ?_
        refine va_iald hx hb hK hP 1 6 rfl rfl (inB_in (by decide : inB (9 : Int32) 55 = true)) dX8_reads_163 ?_
        refine lv_iload_n hx hb dX8_reads_164 rfl (lv_at hl 3 rfl) ?_
        refine lv_iload_n hx hb dX8_reads_165 rfl (lv_at hl 2 rfl) ?_
        refine lv_imul hx hb dX8_reads_166 ?_
        refine lv_iadd hx hb dX8_reads_167 ?_
        refine va_iast hx hb hK hP hD hS 1 6 rfl rfl (inB_in (by decide : inB (9 : Int32) 55 = true)) dX8_reads_168 (fun H locs hP hD hS => ?_)
        have hP : va_P D vwC7 [(aM, .inr (6, [.ref aMn, .ref aMt, .ref aMk, .int mU, .ref aMs, .int mB, .ref aMl, .int mI, .ref aMx, .int mH, .int mQ, .int mW, .ref aMd, .int mF, .int mR_58, .int mD_58, .int mJ_58, .int mA_58, .int mT])), (aMn, .inl (K 6, 55, .inl (upd (upd nN_58 (7 : Int32).toNatClampNeg ((nN_58 (7 : Int32).toNatClampNeg) - (y58_3 * y58_2))) (9 : Int32).toNatClampNeg (((upd nN_58 (7 : Int32).toNatClampNeg ((nN_58 (7 : Int32).toNatClampNeg) - (y58_3 * y58_2))) (9 : Int32).toNatClampNeg) + (y58_3 * y58_2)))))] H := hP
        have hD : va_D A [(aM, .inr (6, [.ref aMn, .ref aMt, .ref aMk, .int mU, .ref aMs, .int mB, .ref aMl, .int mI, .ref aMx, .int mH, .int mQ, .int mW, .ref aMd, .int mF, .int mR_58, .int mD_58, .int mJ_58, .int mA_58, .int mT])), (aMn, .inl (K 6, 55, .inl (upd (upd nN_58 (7 : Int32).toNatClampNeg ((nN_58 (7 : Int32).toNatClampNeg) - (y58_3 * y58_2))) (9 : Int32).toNatClampNeg (((upd nN_58 (7 : Int32).toNatClampNeg ((nN_58 (7 : Int32).toNatClampNeg) - (y58_3 * y58_2))) (9 : Int32).toNatClampNeg) + (y58_3 * y58_2)))))] := hD
        refine lv_aload_n hx hb dX8_reads_169 rfl (lv_at hl 0 rfl) ?_
        refine va_get (D := D) (ci := 6) (v := .ref aMn) (C := RX8) (T := TX8) (N := 19) hx hb hts (fun _ h => List.mem_cons_of_mem _ (List.mem_append_left _ (List.mem_append_left _ (List.mem_append_right _ h)))) hown hK hP 0 rfl rfl 0 (by decide) (hts (.fieldLink RX8 9 "BarometerClubModel" "now" "[I") (List.mem_of_getElem? (i := 1) rfl)) (fun _ h9 => h9) rfl dX8_reads_170 ?_
        refine lv_bipush (v := (8 : Int32)) hx hb dX8_reads_173 (by decide) ?_
        refine lv_dup2_11 hx hb dX8_reads_175 rfl rfl ?_
        refine va_iald hx hb hK hP 1 6 rfl rfl (inB_in (by decide : inB (8 : Int32) 55 = true)) dX8_reads_176 ?_
        refine lv_iconst (v := (1 : Int32)) hx hb dX8_reads_177 (by decide) ?_
        refine lv_iadd hx hb dX8_reads_178 ?_
        refine va_iast hx hb hK hP hD hS 1 6 rfl rfl (inB_in (by decide : inB (8 : Int32) 55 = true)) dX8_reads_179 (fun H locs hP hD hS => ?_)
        have hP : va_P D vwC7 [(aM, .inr (6, [.ref aMn, .ref aMt, .ref aMk, .int mU, .ref aMs, .int mB, .ref aMl, .int mI, .ref aMx, .int mH, .int mQ, .int mW, .ref aMd, .int mF, .int mR_58, .int mD_58, .int mJ_58, .int mA_58, .int mT])), (aMn, .inl (K 6, 55, .inl (upd (upd (upd nN_58 (7 : Int32).toNatClampNeg ((nN_58 (7 : Int32).toNatClampNeg) - (y58_3 * y58_2))) (9 : Int32).toNatClampNeg (((upd nN_58 (7 : Int32).toNatClampNeg ((nN_58 (7 : Int32).toNatClampNeg) - (y58_3 * y58_2))) (9 : Int32).toNatClampNeg) + (y58_3 * y58_2))) (8 : Int32).toNatClampNeg (((upd (upd nN_58 (7 : Int32).toNatClampNeg ((nN_58 (7 : Int32).toNatClampNeg) - (y58_3 * y58_2))) (9 : Int32).toNatClampNeg (((upd nN_58 (7 : Int32).toNatClampNeg ((nN_58 (7 : Int32).toNatClampNeg) - (y58_3 * y58_2))) (9 : Int32).toNatClampNeg) + (y58_3 * y58_2))) (8 : Int32).toNatClampNeg) + (1 : Int32)))))] H := hP
        have hD : va_D A [(aM, .inr (6, [.ref aMn, .ref aMt, .ref aMk, .int mU, .ref aMs, .int mB, .ref aMl, .int mI, .ref aMx, .int mH, .int mQ, .int mW, .ref aMd, .int mF, .int mR_58, .int mD_58, .int mJ_58, .int mA_58, .int mT])), (aMn, .inl (K 6, 55, .inl (upd (upd (upd nN_58 (7 : Int32).toNatClampNeg ((nN_58 (7 : Int32).toNatClampNeg) - (y58_3 * y58_2))) (9 : Int32).toNatClampNeg (((upd nN_58 (7 : Int32).toNatClampNeg ((nN_58 (7 : Int32).toNatClampNeg) - (y58_3 * y58_2))) (9 : Int32).toNatClampNeg) + (y58_3 * y58_2))) (8 : Int32).toNatClampNeg (((upd (upd nN_58 (7 : Int32).toNatClampNeg ((nN_58 (7 : Int32).toNatClampNeg) - (y58_3 * y58_2))) (9 : Int32).toNatClampNeg (((upd nN_58 (7 : Int32).toNatClampNeg ((nN_58 (7 : Int32).toNatClampNeg) - (y58_3 * y58_2))) (9 : Int32).toNatClampNeg) + (y58_3 * y58_2))) (8 : Int32).toNatClampNeg) + (1 : Int32)))))] := hD
        refine lv_aload_n hx hb dX8_reads_180 rfl (lv_at hl 0 rfl) ?_
        refine lv_iload_n hx hb dX8_reads_181 rfl (lv_at hl 2 rfl) ?_
        obtain ⟨v8, hv8, hF⟩ := oB hF
        refine call_i (wr := [(aMn, .inl (K 6, 55, .inl (upd (upd (upd nN_58 (7 : Int32).toNatClampNeg ((nN_58 (7 : Int32).toNatClampNeg) - (y58_3 * y58_2))) (9 : Int32).toNatClampNeg (((upd nN_58 (7 : Int32).toNatClampNeg ((nN_58 (7 : Int32).toNatClampNeg) - (y58_3 * y58_2))) (9 : Int32).toNatClampNeg) + (y58_3 * y58_2))) (8 : Int32).toNatClampNeg (((upd (upd nN_58 (7 : Int32).toNatClampNeg ((nN_58 (7 : Int32).toNatClampNeg) - (y58_3 * y58_2))) (9 : Int32).toNatClampNeg (((upd nN_58 (7 : Int32).toNatClampNeg ((nN_58 (7 : Int32).toNatClampNeg) - (y58_3 * y58_2))) (9 : Int32).toNatClampNeg) + (y58_3 * y58_2))) (8 : Int32).toNatClampNeg) + (1 : Int32)))))]) (wn := [(aM, .inr (6, [.ref aMn, .ref aMt, .ref aMk, .int mU, .ref aMs, .int mB, .ref aMl, .int mI, .ref aMx, .int mH, .int mQ, .int mW, .ref aMd, .int mF, .int mR_58, .int mD_58, .int mJ_58, .int v8.2, .int mT])), (aMn, .inl (K 6, 55, .inl (upd (upd (upd nN_58 (7 : Int32).toNatClampNeg ((nN_58 (7 : Int32).toNatClampNeg) - (y58_3 * y58_2))) (9 : Int32).toNatClampNeg (((upd nN_58 (7 : Int32).toNatClampNeg ((nN_58 (7 : Int32).toNatClampNeg) - (y58_3 * y58_2))) (9 : Int32).toNatClampNeg) + (y58_3 * y58_2))) (8 : Int32).toNatClampNeg (((upd (upd nN_58 (7 : Int32).toNatClampNeg ((nN_58 (7 : Int32).toNatClampNeg) - (y58_3 * y58_2))) (9 : Int32).toNatClampNeg (((upd nN_58 (7 : Int32).toNatClampNeg ((nN_58 (7 : Int32).toNatClampNeg) - (y58_3 * y58_2))) (9 : Int32).toNatClampNeg) + (y58_3 * y58_2))) (8 : Int32).toNatClampNeg) + (1 : Int32)))))]) (va_runV (As := [.int y58_2]) (rest := []) ⟨hx, hb, hml, hown, hts⟩ (c_X8_does l D K aM aMn aMt aMk aMs aMl aMx aMd mU mB mI mH mQ mW mF mR_58 mD_58 mJ_58 mA_58 mT y58_2 v8 hv8 H.size) (cwV 1 hts gX8_reads_X8_does rfl rfl rfl (by decide +kernel) ⟨(Nat.le_of_ble_eq_true rfl), (Nat.le_of_ble_eq_true rfl)⟩) (prV hE hK hP hD hS hA [0] rfl rfl 6 0 rfl rfl rfl) rfl rfl hl.1 rfl (lv_room (Nat.le_of_ble_eq_true rfl)) dX8_reads_182 ⟨(Nat.le_of_ble_eq_true rfl), (Nat.le_of_ble_eq_true rfl)⟩) hP hD hS hA [0] [1] [1, 0] rfl rfl rfl (by decide) rfl rfl (fun H locs hP hD hS => ?_)
        obtain ⟨g9, hF⟩ := oG hF
        exact fin_z (u := (v8.1, (mR_58, mD_58, mJ_58, v8.2, upd (upd (upd nN_58 (7 : Int32).toNatClampNeg ((nN_58 (7 : Int32).toNatClampNeg) - (y58_3 * y58_2))) (9 : Int32).toNatClampNeg (((upd nN_58 (7 : Int32).toNatClampNeg ((nN_58 (7 : Int32).toNatClampNeg) - (y58_3 * y58_2))) (9 : Int32).toNatClampNeg) + (y58_3 * y58_2))) (8 : Int32).toNatClampNeg (((upd (upd nN_58 (7 : Int32).toNatClampNeg ((nN_58 (7 : Int32).toNatClampNeg) - (y58_3 * y58_2))) (9 : Int32).toNatClampNeg (((upd nN_58 (7 : Int32).toNatClampNeg ((nN_58 (7 : Int32).toNatClampNeg) - (y58_3 * y58_2))) (9 : Int32).toNatClampNeg) + (y58_3 * y58_2))) (8 : Int32).toNatClampNeg) + (1 : Int32))))) hF (okN_n g9) hx hb hr hlocks hK hP hD hS (Nat.le_of_ble_eq_true rfl) (Nat.le_of_ble_eq_true rfl) dX8_reads_185
      · have hF := oF c7 hF
        refine lv_iload_n hx hb dX8_reads_69 rfl (lv_at hl 1 rfl) ?_
        refine lv_iload hx hb dX8_reads_70 (lv_at hl 4 rfl) ?_
        refine lv_ishr hx hb dX8_reads_72 ?_
        refine lv_iconst (v := (1 : Int32)) hx hb dX8_reads_73 (by decide) ?_
        refine lv_iand hx hb dX8_reads_74 ?_
        refine lv_iconst (v := (1 : Int32)) hx hb dX8_reads_75 (by decide) ?_
        refine lv_icmp_ne (tgt := 113) hx hb dX8_reads_76 (by decide) (fun c10 => ?_) (fun c10 => ?_)
        · have hF := oF c10 hF
          refine lv_aload_n hx hb dX8_reads_113 rfl (lv_at hl 0 rfl) ?_
          refine lv_iload hx hb dX8_reads_114 (lv_at hl 4 rfl) ?_
          refine lv_iconst (v := (2 : Int32)) hx hb dX8_reads_116 (by decide) ?_
          refine lv_iconst (v := (0 : Int32)) hx hb dX8_reads_117 (by decide) ?_
          obtain ⟨v11, hv11, hF⟩ := oB hF
          refine call_v (wr := []) (wn := [(aM, .inr (6, [.ref aMn, .ref aMt, .ref aMk, .int mU, .ref aMs, .int mB, .ref aMl, .int mI, .ref aMx, .int mH, .int mQ, .int mW, .ref aMd, .int mF, .int mR_58, .int mD_58, .int mJ_58, .int mA_58, .int mT])), (aMn, .inl (K 6, 55, .inl v11))]) (va_runV (As := [.int y58_4, .int (2 : Int32), .int (0 : Int32)]) (rest := []) ⟨hx, hb, hml, hown, hts⟩ (c_X8_sets l D K aM aMn aMt aMk aMs aMl aMx aMd mU mB mI mH mQ mW mF mR_58 mD_58 mJ_58 mA_58 mT nN_58 y58_4 (2 : Int32) (0 : Int32) v11 hv11 H.size) (cwV 3 hts gX8_reads_X8_sets rfl rfl rfl (by decide +kernel) ⟨(Nat.le_of_ble_eq_true rfl), (Nat.le_of_ble_eq_true rfl)⟩) (prV hE hK hP hD hS hA [0, 1] rfl rfl 6 0 rfl rfl rfl) rfl rfl hl.1 rfl (lv_room (Nat.le_of_ble_eq_true rfl)) dX8_reads_118 ⟨(Nat.le_of_ble_eq_true rfl), (Nat.le_of_ble_eq_true rfl)⟩) hP hD hS hA [0, 1] [] [0, 1] rfl rfl rfl (by decide) rfl rfl (fun H locs hP hD hS => ?_)
          refine lv_aload_n hx hb dX8_reads_121 rfl (lv_at hl 0 rfl) ?_
          refine lv_iload hx hb dX8_reads_122 (lv_at hl 4 rfl) ?_
          refine lv_iconst (v := (3 : Int32)) hx hb dX8_reads_124 (by decide) ?_
          refine lv_iconst (v := (0 : Int32)) hx hb dX8_reads_125 (by decide) ?_
          obtain ⟨v12, hv12, hF⟩ := oB hF
          refine call_v (wr := []) (wn := [(aM, .inr (6, [.ref aMn, .ref aMt, .ref aMk, .int mU, .ref aMs, .int mB, .ref aMl, .int mI, .ref aMx, .int mH, .int mQ, .int mW, .ref aMd, .int mF, .int mR_58, .int mD_58, .int mJ_58, .int mA_58, .int mT])), (aMn, .inl (K 6, 55, .inl v12))]) (va_runV (As := [.int y58_4, .int (3 : Int32), .int (0 : Int32)]) (rest := []) ⟨hx, hb, hml, hown, hts⟩ (c_X8_sets l D K aM aMn aMt aMk aMs aMl aMx aMd mU mB mI mH mQ mW mF mR_58 mD_58 mJ_58 mA_58 mT v11 y58_4 (3 : Int32) (0 : Int32) v12 hv12 H.size) (cwV 3 hts gX8_reads_X8_sets rfl rfl rfl (by decide +kernel) ⟨(Nat.le_of_ble_eq_true rfl), (Nat.le_of_ble_eq_true rfl)⟩) (prV hE hK hP hD hS hA [0, 1] rfl rfl 6 0 rfl rfl rfl) rfl rfl hl.1 rfl (lv_room (Nat.le_of_ble_eq_true rfl)) dX8_reads_126 ⟨(Nat.le_of_ble_eq_true rfl), (Nat.le_of_ble_eq_true rfl)⟩) hP hD hS hA [0, 1] [] [0, 1] rfl rfl rfl (by decide) rfl rfl (fun H locs hP hD hS => ?_)
          refine lv_aload_n hx hb dX8_reads_129 rfl (lv_at hl 0 rfl) ?_
          refine lv_iload hx hb dX8_reads_130 (lv_at hl 4 rfl) ?_
          refine lv_iconst (v := (4 : Int32)) hx hb dX8_reads_132 (by decide) ?_
          refine lv_iconst (v := (0 : Int32)) hx hb dX8_reads_133 (by decide) ?_
          obtain ⟨v13, hv13, hF⟩ := oB hF
          refine call_v (wr := []) (wn := [(aM, .inr (6, [.ref aMn, .ref aMt, .ref aMk, .int mU, .ref aMs, .int mB, .ref aMl, .int mI, .ref aMx, .int mH, .int mQ, .int mW, .ref aMd, .int mF, .int mR_58, .int mD_58, .int mJ_58, .int mA_58, .int mT])), (aMn, .inl (K 6, 55, .inl v13))]) (va_runV (As := [.int y58_4, .int (4 : Int32), .int (0 : Int32)]) (rest := []) ⟨hx, hb, hml, hown, hts⟩ (c_X8_sets l D K aM aMn aMt aMk aMs aMl aMx aMd mU mB mI mH mQ mW mF mR_58 mD_58 mJ_58 mA_58 mT v12 y58_4 (4 : Int32) (0 : Int32) v13 hv13 H.size) (cwV 3 hts gX8_reads_X8_sets rfl rfl rfl (by decide +kernel) ⟨(Nat.le_of_ble_eq_true rfl), (Nat.le_of_ble_eq_true rfl)⟩) (prV hE hK hP hD hS hA [0, 1] rfl rfl 6 0 rfl rfl rfl) rfl rfl hl.1 rfl (lv_room (Nat.le_of_ble_eq_true rfl)) dX8_reads_134 ⟨(Nat.le_of_ble_eq_true rfl), (Nat.le_of_ble_eq_true rfl)⟩) hP hD hS hA [0, 1] [] [0, 1] rfl rfl rfl (by decide) rfl rfl (fun H locs hP hD hS => ?_)
          refine lv_iinc (v := y58_4 + (1 : Int32)) (lv' := [(4, .int (y58_4 + (1 : Int32))), (0, .ref aM), (1, .int y58_1), (2, .int y58_2), (3, .int y58_3)]) hx hb dX8_reads_137 hl (k := 4) rfl (by first | rfl | decide) (by decide) rfl (fun ls hl => ?_)
          refine lv_goto (tgt := 58) hx hb dX8_reads_140 (by decide) ?_
          exact ih (y58_4 + (1 : Int32)) v13 hF _ _ hP hD hS _ (lv_sub hl [1, 2, 3, 4, 0] rfl)
        · have hF := oT c10 hF
          refine lv_aload_n hx hb dX8_reads_79 rfl (lv_at hl 0 rfl) ?_
          refine lv_iload hx hb dX8_reads_80 (lv_at hl 4 rfl) ?_
          refine lv_iconst (v := (0 : Int32)) hx hb dX8_reads_82 (by decide) ?_
          refine lv_aload_n hx hb dX8_reads_83 rfl (lv_at hl 0 rfl) ?_
          refine lv_iload hx hb dX8_reads_84 (lv_at hl 4 rfl) ?_
          refine lv_iconst (v := (0 : Int32)) hx hb dX8_reads_86 (by decide) ?_
          obtain ⟨v14, hv14, hF⟩ := oB hF
          refine call_i (wr := []) (wn := [(aM, .inr (6, [.ref aMn, .ref aMt, .ref aMk, .int mU, .ref aMs, .int mB, .ref aMl, .int mI, .ref aMx, .int mH, .int mQ, .int mW, .ref aMd, .int mF, .int mR_58, .int mD_58, .int mJ_58, .int mA_58, .int mT])), (aMn, .inl (K 6, 55, .inl nN_58))]) (va_runV (As := [.int y58_4, .int (0 : Int32)]) (rest := [.int (0 : Int32), .int y58_4, .ref aM]) ⟨hx, hb, hml, hown, hts⟩ (c_X8_of l D K aM aMn aMt aMk aMs aMl aMx aMd mU mB mI mH mQ mW mF mR_58 mD_58 mJ_58 mA_58 mT nN_58 y58_4 (0 : Int32) v14 hv14 H.size) (cwV 2 hts gX8_reads_X8_of rfl rfl rfl (by decide +kernel) ⟨(Nat.le_of_ble_eq_true rfl), (Nat.le_of_ble_eq_true rfl)⟩) (prV hE hK hP hD hS hA [0, 1] rfl rfl 6 0 rfl rfl rfl) rfl rfl hl.1 rfl (lv_room (Nat.le_of_ble_eq_true rfl)) dX8_reads_87 ⟨(Nat.le_of_ble_eq_true rfl), (Nat.le_of_ble_eq_true rfl)⟩) hP hD hS hA [0, 1] [] [0, 1] rfl rfl rfl (by decide) rfl rfl (fun H locs hP hD hS => ?_)
          refine lv_iload_n hx hb dX8_reads_90 rfl (lv_at hl 3 rfl) ?_
          refine lv_iadd hx hb dX8_reads_91 ?_
          obtain ⟨v15, hv15, hF⟩ := oB hF
          refine call_v (wr := []) (wn := [(aM, .inr (6, [.ref aMn, .ref aMt, .ref aMk, .int mU, .ref aMs, .int mB, .ref aMl, .int mI, .ref aMx, .int mH, .int mQ, .int mW, .ref aMd, .int mF, .int mR_58, .int mD_58, .int mJ_58, .int mA_58, .int mT])), (aMn, .inl (K 6, 55, .inl v15))]) (va_runV (As := [.int y58_4, .int (0 : Int32), .int (v14.1 + y58_3)]) (rest := []) ⟨hx, hb, hml, hown, hts⟩ (c_X8_sets l D K aM aMn aMt aMk aMs aMl aMx aMd mU mB mI mH mQ mW mF mR_58 mD_58 mJ_58 mA_58 mT nN_58 y58_4 (0 : Int32) (v14.1 + y58_3) v15 hv15 H.size) (cwV 3 hts gX8_reads_X8_sets rfl rfl rfl (by decide +kernel) ⟨(Nat.le_of_ble_eq_true rfl), (Nat.le_of_ble_eq_true rfl)⟩) (prV hE hK hP hD hS hA [0, 1] rfl rfl 6 0 rfl rfl rfl) rfl rfl hl.1 rfl (lv_room (Nat.le_of_ble_eq_true rfl)) dX8_reads_92 ⟨(Nat.le_of_ble_eq_true rfl), (Nat.le_of_ble_eq_true rfl)⟩) hP hD hS hA [0, 1] [] [0, 1] rfl rfl rfl (by decide) rfl rfl (fun H locs hP hD hS => ?_)
          refine lv_aload_n hx hb dX8_reads_95 rfl (lv_at hl 0 rfl) ?_
          refine lv_iload hx hb dX8_reads_96 (lv_at hl 4 rfl) ?_
          refine lv_bipush (v := (6 : Int32)) hx hb dX8_reads_98 (by decide) ?_
          refine lv_aload_n hx hb dX8_reads_100 rfl (lv_at hl 0 rfl) ?_
          refine lv_iload hx hb dX8_reads_101 (lv_at hl 4 rfl) ?_
          refine lv_bipush (v := (6 : Int32)) hx hb dX8_reads_103 (by decide) ?_
          obtain ⟨v16, hv16, hF⟩ := oB hF
          refine call_i (wr := []) (wn := [(aM, .inr (6, [.ref aMn, .ref aMt, .ref aMk, .int mU, .ref aMs, .int mB, .ref aMl, .int mI, .ref aMx, .int mH, .int mQ, .int mW, .ref aMd, .int mF, .int mR_58, .int mD_58, .int mJ_58, .int mA_58, .int mT])), (aMn, .inl (K 6, 55, .inl v15))]) (va_runV (As := [.int y58_4, .int (6 : Int32)]) (rest := [.int (6 : Int32), .int y58_4, .ref aM]) ⟨hx, hb, hml, hown, hts⟩ (c_X8_of l D K aM aMn aMt aMk aMs aMl aMx aMd mU mB mI mH mQ mW mF mR_58 mD_58 mJ_58 mA_58 mT v15 y58_4 (6 : Int32) v16 hv16 H.size) (cwV 2 hts gX8_reads_X8_of rfl rfl rfl (by decide +kernel) ⟨(Nat.le_of_ble_eq_true rfl), (Nat.le_of_ble_eq_true rfl)⟩) (prV hE hK hP hD hS hA [0, 1] rfl rfl 6 0 rfl rfl rfl) rfl rfl hl.1 rfl (lv_room (Nat.le_of_ble_eq_true rfl)) dX8_reads_105 ⟨(Nat.le_of_ble_eq_true rfl), (Nat.le_of_ble_eq_true rfl)⟩) hP hD hS hA [0, 1] [] [0, 1] rfl rfl rfl (by decide) rfl rfl (fun H locs hP hD hS => ?_)
          refine lv_iconst (v := (1 : Int32)) hx hb dX8_reads_108 (by decide) ?_
          refine lv_iadd hx hb dX8_reads_109 ?_
          obtain ⟨v17, hv17, hF⟩ := oB hF
          refine call_v (wr := []) (wn := [(aM, .inr (6, [.ref aMn, .ref aMt, .ref aMk, .int mU, .ref aMs, .int mB, .ref aMl, .int mI, .ref aMx, .int mH, .int mQ, .int mW, .ref aMd, .int mF, .int mR_58, .int mD_58, .int mJ_58, .int mA_58, .int mT])), (aMn, .inl (K 6, 55, .inl v17))]) (va_runV (As := [.int y58_4, .int (6 : Int32), .int (v16.1 + (1 : Int32))]) (rest := []) ⟨hx, hb, hml, hown, hts⟩ (c_X8_sets l D K aM aMn aMt aMk aMs aMl aMx aMd mU mB mI mH mQ mW mF mR_58 mD_58 mJ_58 mA_58 mT v15 y58_4 (6 : Int32) (v16.1 + (1 : Int32)) v17 hv17 H.size) (cwV 3 hts gX8_reads_X8_sets rfl rfl rfl (by decide +kernel) ⟨(Nat.le_of_ble_eq_true rfl), (Nat.le_of_ble_eq_true rfl)⟩) (prV hE hK hP hD hS hA [0, 1] rfl rfl 6 0 rfl rfl rfl) rfl rfl hl.1 rfl (lv_room (Nat.le_of_ble_eq_true rfl)) dX8_reads_110 ⟨(Nat.le_of_ble_eq_true rfl), (Nat.le_of_ble_eq_true rfl)⟩) hP hD hS hA [0, 1] [] [0, 1] rfl rfl rfl (by decide) rfl rfl (fun H locs hP hD hS => ?_)
          refine lv_aload_n hx hb dX8_reads_113 rfl (lv_at hl 0 rfl) ?_
          refine lv_iload hx hb dX8_reads_114 (lv_at hl 4 rfl) ?_
          refine lv_iconst (v := (2 : Int32)) hx hb dX8_reads_116 (by decide) ?_
          refine lv_iconst (v := (0 : Int32)) hx hb dX8_reads_117 (by decide) ?_
          obtain ⟨v18, hv18, hF⟩ := oB hF
          refine call_v (wr := []) (wn := [(aM, .inr (6, [.ref aMn, .ref aMt, .ref aMk, .int mU, .ref aMs, .int mB, .ref aMl, .int mI, .ref aMx, .int mH, .int mQ, .int mW, .ref aMd, .int mF, .int mR_58, .int mD_58, .int mJ_58, .int mA_58, .int mT])), (aMn, .inl (K 6, 55, .inl v18))]) (va_runV (As := [.int y58_4, .int (2 : Int32), .int (0 : Int32)]) (rest := []) ⟨hx, hb, hml, hown, hts⟩ (c_X8_sets l D K aM aMn aMt aMk aMs aMl aMx aMd mU mB mI mH mQ mW mF mR_58 mD_58 mJ_58 mA_58 mT v17 y58_4 (2 : Int32) (0 : Int32) v18 hv18 H.size) (cwV 3 hts gX8_reads_X8_sets rfl rfl rfl (by decide +kernel) ⟨(Nat.le_of_ble_eq_true rfl), (Nat.le_of_ble_eq_true rfl)⟩) (prV hE hK hP hD hS hA [0, 1] rfl rfl 6 0 rfl rfl rfl) rfl rfl hl.1 rfl (lv_room (Nat.le_of_ble_eq_true rfl)) dX8_reads_118 ⟨(Nat.le_of_ble_eq_true rfl), (Nat.le_of_ble_eq_true rfl)⟩) hP hD hS hA [0, 1] [] [0, 1] rfl rfl rfl (by decide) rfl rfl (fun H locs hP hD hS => ?_)
          refine lv_aload_n hx hb dX8_reads_121 rfl (lv_at hl 0 rfl) ?_
          refine lv_iload hx hb dX8_reads_122 (lv_at hl 4 rfl) ?_
          refine lv_iconst (v := (3 : Int32)) hx hb dX8_reads_124 (by decide) ?_
          refine lv_iconst (v := (0 : Int32)) hx hb dX8_reads_125 (by decide) ?_
          obtain ⟨v19, hv19, hF⟩ := oB hF
          refine call_v (wr := []) (wn := [(aM, .inr (6, [.ref aMn, .ref aMt, .ref aMk, .int mU, .ref aMs, .int mB, .ref aMl, .int mI, .ref aMx, .int mH, .int mQ, .int mW, .ref aMd, .int mF, .int mR_58, .int mD_58, .int mJ_58, .int mA_58, .int mT])), (aMn, .inl (K 6, 55, .inl v19))]) (va_runV (As := [.int y58_4, .int (3 : Int32), .int (0 : Int32)]) (rest := []) ⟨hx, hb, hml, hown, hts⟩ (c_X8_sets l D K aM aMn aMt aMk aMs aMl aMx aMd mU mB mI mH mQ mW mF mR_58 mD_58 mJ_58 mA_58 mT v18 y58_4 (3 : Int32) (0 : Int32) v19 hv19 H.size) (cwV 3 hts gX8_reads_X8_sets rfl rfl rfl (by decide +kernel) ⟨(Nat.le_of_ble_eq_true rfl), (Nat.le_of_ble_eq_true rfl)⟩) (prV hE hK hP hD hS hA [0, 1] rfl rfl 6 0 rfl rfl rfl) rfl rfl hl.1 rfl (lv_room (Nat.le_of_ble_eq_true rfl)) dX8_reads_126 ⟨(Nat.le_of_ble_eq_true rfl), (Nat.le_of_ble_eq_true rfl)⟩) hP hD hS hA [0, 1] [] [0, 1] rfl rfl rfl (by decide) rfl rfl (fun H locs hP hD hS => ?_)
          refine lv_aload_n hx hb dX8_reads_129 rfl (lv_at hl 0 rfl) ?_
          refine lv_iload hx hb dX8_reads_130 (lv_at hl 4 rfl) ?_
          refine lv_iconst (v := (4 : Int32)) hx hb dX8_reads_132 (by decide) ?_
          refine lv_iconst (v := (0 : Int32)) hx hb dX8_reads_133 (by decide) ?_
          obtain ⟨v20, hv20, hF⟩ := oB hF
          refine call_v (wr := []) (wn := [(aM, .inr (6, [.ref aMn, .ref aMt, .ref aMk, .int mU, .ref aMs, .int mB, .ref aMl, .int mI, .ref aMx, .int mH, .int mQ, .int mW, .ref aMd, .int mF, .int mR_58, .int mD_58, .int mJ_58, .int mA_58, .int mT])), (aMn, .inl (K 6, 55, .inl v20))]) (va_runV (As := [.int y58_4, .int (4 : Int32), .int (0 : Int32)]) (rest := []) ⟨hx, hb, hml, hown, hts⟩ (c_X8_sets l D K aM aMn aMt aMk aMs aMl aMx aMd mU mB mI mH mQ mW mF mR_58 mD_58 mJ_58 mA_58 mT v19 y58_4 (4 : Int32) (0 : Int32) v20 hv20 H.size) (cwV 3 hts gX8_reads_X8_sets rfl rfl rfl (by decide +kernel) ⟨(Nat.le_of_ble_eq_true rfl), (Nat.le_of_ble_eq_true rfl)⟩) (prV hE hK hP hD hS hA [0, 1] rfl rfl 6 0 rfl rfl rfl) rfl rfl hl.1 rfl (lv_room (Nat.le_of_ble_eq_true rfl)) dX8_reads_134 ⟨(Nat.le_of_ble_eq_true rfl), (Nat.le_of_ble_eq_true rfl)⟩) hP hD hS hA [0, 1] [] [0, 1] rfl rfl rfl (by decide) rfl rfl (fun H locs hP hD hS => ?_)
          refine lv_iinc (v := y58_4 + (1 : Int32)) (lv' := [(4, .int (y58_4 + (1 : Int32))), (0, .ref aM), (1, .int y58_1), (2, .int y58_2), (3, .int y58_3)]) hx hb dX8_reads_137 hl (k := 4) rfl (by first | rfl | decide) (by decide) rfl (fun ls hl => ?_)
          refine lv_goto (tgt := 58) hx hb dX8_reads_140 (by decide) ?_
          exact ih (y58_4 + (1 : Int32)) v20 hF _ _ hP hD hS _ (lv_sub hl [1, 2, 3, 4, 0] rfl)
  rw [f_X8_reads] at hF
  refine lv_aload_n hx hb dX8_reads_0 rfl (lv_at hl 0 rfl) ?_
  obtain ⟨v1, hv1, hF⟩ := oB hF
  refine call_i (wr := []) (wn := [(aM, .inr (6, [.ref aMn, .ref aMt, .ref aMk, .int mU, .ref aMs, .int mB, .ref aMl, .int mI, .ref aMx, .int mH, .int mQ, .int mW, .ref aMd, .int mF, .int mR, .int mD, .int mJ, .int mA, .int mT])), (aMn, .inl (K 6, 55, .inl nN))]) (va_runV (As := []) (rest := []) ⟨hx, hb, hml, hown, hts⟩ (c_X8_wagered l D K aM aMn aMt aMk aMs aMl aMx aMd mU mB mI mH mQ mW mF mR mD mJ mA mT nN v1 hv1 s.heap.size) (cwV 0 hts gX8_reads_X8_wagered rfl rfl rfl (by decide +kernel) ⟨(Nat.le_of_ble_eq_true rfl), (Nat.le_of_ble_eq_true rfl)⟩) (prV hE hK hP hD hS hA [0, 1] rfl rfl 6 0 rfl rfl rfl) rfl rfl hl.1 rfl (lv_room (Nat.le_of_ble_eq_true rfl)) dX8_reads_1 ⟨(Nat.le_of_ble_eq_true rfl), (Nat.le_of_ble_eq_true rfl)⟩) hP hD hS hA [0, 1] [] [0, 1] rfl rfl rfl (by decide) rfl rfl (fun H locs hP hD hS => ?_)
  refine lv_if_ne (tgt := 21) hx hb dX8_reads_4 (by decide) (fun c2 => ?_) (fun c2 => ?_)
  · have hF := oF c2 hF
    refine lv_aload_n hx hb dX8_reads_21 rfl (lv_at hl 0 rfl) ?_
    refine lv_aload_n hx hb dX8_reads_22 rfl (lv_at hl 0 rfl) ?_
    refine va_get (D := D) (ci := 6) (v := .ref aMn) (C := RX8) (T := TX8) (N := 19) hx hb hts (fun _ h => List.mem_cons_of_mem _ (List.mem_append_left _ (List.mem_append_left _ (List.mem_append_right _ h)))) hown hK hP 0 rfl rfl 0 (by decide) (hts (.fieldLink RX8 9 "BarometerClubModel" "now" "[I") (List.mem_of_getElem? (i := 1) rfl)) (fun _ h9 => h9) rfl dX8_reads_23 ?_
    refine lv_iconst (v := (1 : Int32)) hx hb dX8_reads_26 (by decide) ?_
    refine va_iald hx hb hK hP 1 6 rfl rfl (inB_in (by decide : inB (1 : Int32) 55 = true)) dX8_reads_27 ?_
    obtain ⟨v3, hv3, hF⟩ := oB hF
    refine call_i (wr := []) (wn := [(aM, .inr (6, [.ref aMn, .ref aMt, .ref aMk, .int mU, .ref aMs, .int mB, .ref aMl, .int mI, .ref aMx, .int mH, .int mQ, .int mW, .ref aMd, .int mF, .int mR, .int mD, .int mJ, .int mA, .int mT])), (aMn, .inl (K 6, 55, .inl nN))]) (va_runV (As := [.int (nN (1 : Int32).toNatClampNeg)]) (rest := []) ⟨hx, hb, hml, hown, hts⟩ (c_X8_winnersAt l D K aM aMn aMt aMk aMs aMl aMx aMd mU mB mI mH mQ mW mF mR mD mJ mA mT nN (nN (1 : Int32).toNatClampNeg) v3 hv3 H.size) (cwV 1 hts gX8_reads_X8_winnersAt rfl rfl rfl (by decide +kernel) ⟨(Nat.le_of_ble_eq_true rfl), (Nat.le_of_ble_eq_true rfl)⟩) (prV hE hK hP hD hS hA [0, 1] rfl rfl 6 0 rfl rfl rfl) rfl rfl hl.1 rfl (lv_room (Nat.le_of_ble_eq_true rfl)) dX8_reads_28 ⟨(Nat.le_of_ble_eq_true rfl), (Nat.le_of_ble_eq_true rfl)⟩) hP hD hS hA [0, 1] [] [0, 1] rfl rfl rfl (by decide) rfl rfl (fun H locs hP hD hS => ?_)
    refine lv_istore_n (lv' := [(1, .int v3.1), (0, .ref aM)]) hx hb dX8_reads_31 rfl hl (by decide) rfl (fun ls hl => ?_)
    refine lv_iload_n hx hb dX8_reads_32 rfl (lv_at hl 0 rfl) ?_
    obtain ⟨v4, hv4, hF⟩ := oB hF
    refine call_i (wr := [(aM, .inr (6, [.ref aMn, .ref aMt, .ref aMk, .int mU, .ref aMs, .int mB, .ref aMl, .int mI, .ref aMx, .int mH, .int mQ, .int mW, .ref aMd, .int mF, .int mR, .int mD, .int mJ, .int mA, .int mT])), (aMn, .inl (K 6, 55, .inl nN))]) (wn := [(aM, .inr (6, [.ref aMn, .ref aMt, .ref aMk, .int mU, .ref aMs, .int mB, .ref aMl, .int mI, .ref aMx, .int mH, .int mQ, .int mW, .ref aMd, .int mF, .int mR, .int mD, .int mJ, .int mA, .int mT])), (aMn, .inl (K 6, 55, .inl nN))]) (va_runS (As := [.int v3.1]) (rest := []) ⟨hx, hb, hml, hown, hts⟩ (c_J6_bitCount_0f7a4 l D K v3.1 v4 hv4 H.size) (va_cwS 1 hts gX8_reads_J6_bitCount_0f7a4 rfl rfl rfl (by decide +kernel) ⟨(Nat.le_of_ble_eq_true rfl), (Nat.le_of_ble_eq_true rfl)⟩) (prS hE hK hP hD hS hA [] rfl rfl) rfl rfl hl.1 rfl (lv_room (Nat.le_of_ble_eq_true rfl)) dX8_reads_33 ⟨(Nat.le_of_ble_eq_true rfl), (Nat.le_of_ble_eq_true rfl)⟩) hP hD hS hA [] [0, 1] [0, 1] rfl rfl rfl (by decide) rfl rfl (fun H locs hP hD hS => ?_)
    refine lv_istore_n (lv' := [(2, .int v4.1), (1, .int v3.1), (0, .ref aM)]) hx hb dX8_reads_36 rfl hl (by decide) rfl (fun ls hl => ?_)
    refine lv_iload_n hx hb dX8_reads_37 rfl (lv_at hl 0 rfl) ?_
    refine lv_if_ne (tgt := 45) hx hb dX8_reads_38 (by decide) (fun c5 => ?_) (fun c5 => ?_)
    · have hF := oF c5 hF
      refine lv_aload_n hx hb dX8_reads_45 rfl (lv_at hl 2 rfl) ?_
      refine va_get (D := D) (ci := 6) (v := .ref aMn) (C := RX8) (T := TX8) (N := 19) hx hb hts (fun _ h => List.mem_cons_of_mem _ (List.mem_append_left _ (List.mem_append_left _ (List.mem_append_right _ h)))) hown hK hP 0 rfl rfl 0 (by decide) (hts (.fieldLink RX8 9 "BarometerClubModel" "now" "[I") (List.mem_of_getElem? (i := 1) rfl)) (fun _ h9 => h9) rfl dX8_reads_46 ?_
      refine lv_bipush (v := (7 : Int32)) hx hb dX8_reads_49 (by decide) ?_
      refine va_iald hx hb hK hP 1 6 rfl rfl (inB_in (by decide : inB (7 : Int32) 55 = true)) dX8_reads_51 ?_
      refine lv_iload_n hx hb dX8_reads_52 rfl (lv_at hl 0 rfl) ?_
      obtain ⟨g6, hF⟩ := oG hF
      refine lv_idiv hx hb dX8_reads_53 (nz_ne g6) ?_
      refine lv_istore_n (lv' := [(3, .int ((nN (7 : Int32).toNatClampNeg) / v4.1)), (2, .int v4.1), (1, .int v3.1), (0, .ref aM)]) hx hb dX8_reads_54 rfl hl (by decide) rfl (fun ls hl => ?_)
      refine lv_iconst (v := (0 : Int32)) hx hb dX8_reads_55 (by decide) ?_
      refine lv_istore (lv' := [(4, .int (0 : Int32)), (3, .int ((nN (7 : Int32).toNatClampNeg) / v4.1)), (2, .int v4.1), (1, .int v3.1), (0, .ref aM)]) hx hb dX8_reads_56 hl (by decide) rfl (fun ls hl => ?_)
      exact loop_58 v3.1 v4.1 ((nN (7 : Int32).toNatClampNeg) / v4.1) mR mD mJ mA FU (0 : Int32) nN hF _ _ hP hD hS _ (lv_sub hl [4, 3, 2, 1, 0] rfl)
    · have hF := oT c5 hF
      refine lv_iconst (v := (0 : Int32)) hx hb dX8_reads_41 (by decide) ?_
      refine lv_goto (tgt := 54) hx hb dX8_reads_42 (by decide) ?_
      refine lv_istore_n (lv' := [(3, .int (0 : Int32)), (2, .int v4.1), (1, .int v3.1), (0, .ref aM)]) hx hb dX8_reads_54 rfl hl (by decide) rfl (fun ls hl => ?_)
      refine lv_iconst (v := (0 : Int32)) hx hb dX8_reads_55 (by decide) ?_
      refine lv_istore (lv' := [(4, .int (0 : Int32)), (3, .int (0 : Int32)), (2, .int v4.1), (1, .int v3.1), (0, .ref aM)]) hx hb dX8_reads_56 hl (by decide) rfl (fun ls hl => ?_)
      exact loop_58 v3.1 v4.1 (0 : Int32) mR mD mJ mA FU (0 : Int32) nN hF _ _ hP hD hS _ (lv_sub hl [4, 3, 2, 1, 0] rfl)
  · have hF := oT c2 hF
    refine lv_aload_n hx hb dX8_reads_7 rfl (lv_at hl 0 rfl) ?_
    refine lv_bipush (v := (14 : Int32)) hx hb dX8_reads_8 (by decide) ?_
    refine lv_aload_n hx hb dX8_reads_10 rfl (lv_at hl 0 rfl) ?_
    refine va_get (D := D) (ci := 6) (v := .ref aMn) (C := RX8) (T := TX8) (N := 19) hx hb hts (fun _ h => List.mem_cons_of_mem _ (List.mem_append_left _ (List.mem_append_left _ (List.mem_append_right _ h)))) hown hK hP 0 rfl rfl 0 (by decide) (hts (.fieldLink RX8 9 "BarometerClubModel" "now" "[I") (List.mem_of_getElem? (i := 1) rfl)) (fun _ h9 => h9) rfl dX8_reads_11 ?_
    refine lv_bipush (v := (7 : Int32)) hx hb dX8_reads_14 (by decide) ?_
    refine va_iald hx hb hK hP 1 6 rfl rfl (inB_in (by decide : inB (7 : Int32) 55 = true)) dX8_reads_16 ?_
    obtain ⟨v21, hv21, hF⟩ := oB hF
    refine call_i (wr := [(aMn, .inl (K 6, 55, .inl nN))]) (wn := [(aM, .inr (6, [.ref aMn, .ref aMt, .ref aMk, .int mU, .ref aMs, .int mB, .ref aMl, .int mI, .ref aMx, .int mH, .int mQ, .int mW, .ref aMd, .int mF, .int v21.2.1, .int v21.2.2.1, .int v21.2.2.2, .int mA, .int mT])), (aMn, .inl (K 6, 55, .inl nN))]) (va_runV (As := [.int (14 : Int32), .int (nN (7 : Int32).toNatClampNeg)]) (rest := []) ⟨hx, hb, hml, hown, hts⟩ (c_X8_refuses l D K aM aMn aMt aMk aMs aMl aMx aMd mU mB mI mH mQ mW mF mR mD mJ mA mT (14 : Int32) (nN (7 : Int32).toNatClampNeg) v21 hv21 H.size) (cwV 2 hts gX8_reads_X8_refuses rfl rfl rfl (by decide +kernel) ⟨(Nat.le_of_ble_eq_true rfl), (Nat.le_of_ble_eq_true rfl)⟩) (prV hE hK hP hD hS hA [0] rfl rfl 6 0 rfl rfl rfl) rfl rfl hl.1 rfl (lv_room (Nat.le_of_ble_eq_true rfl)) dX8_reads_17 ⟨(Nat.le_of_ble_eq_true rfl), (Nat.le_of_ble_eq_true rfl)⟩) hP hD hS hA [0] [1] [1, 0] rfl rfl rfl (by decide) rfl rfl (fun H locs hP hD hS => ?_)
    obtain ⟨g22, hF⟩ := oG hF
    exact fin_z (u := (v21.1, (v21.2.1, v21.2.2.1, v21.2.2.2, mA, nN))) hF (okN_n g22) hx hb hr hlocks hK hP hD hS (Nat.le_of_ble_eq_true rfl) (Nat.le_of_ble_eq_true rfl) dX8_reads_20
abbrev RM_X8_read : Room := { frames := 4, cells := 0, slots := 0, locals := 93 }
abbrev MC_X8_read : Nat := 0
abbrev MS_X8_read : Nat := 0
abbrev wf_X8_read (K : Nat → ClassId) (aM : Nat) (aMn : Nat) (aMt : Nat) (aMk : Nat) (aMs : Nat) (aMl : Nat) (aMx : Nat) (aMd : Nat) (mB : Int32) (mI : Int32) (mH : Int32) (mQ : Int32) (mW : Int32) (mF : Int32) (v : Int32 × Int32 × Int32 × Int32 × Int32 × Int32 × Int32 × (Nat → Int32) × (Nat → Int32) × (Nat → Int32)) : va_W := [(aM, .inr (6, [.ref aMn, .ref aMt, .ref aMk, .int v.2.1, .ref aMs, .int mB, .ref aMl, .int mI, .ref aMx, .int mH, .int mQ, .int mW, .ref aMd, .int mF, .int v.2.2.1, .int v.2.2.2.1, .int v.2.2.2.2.1, .int v.2.2.2.2.2.1, .int v.2.2.2.2.2.2.1])), (aMn, .inl (K 6, 55, .inl v.2.2.2.2.2.2.2.1)), (aMt, .inl (K 7, 55, .inl v.2.2.2.2.2.2.2.2.1)), (aMk, .inl (K 8, 440, .inl v.2.2.2.2.2.2.2.2.2))]
set_option maxHeartbeats 4000000 in
set_option maxRecDepth 100000 in
theorem c_X8_read (l : Launch) (D : va_G) (K : Nat → ClassId) (aM : Nat) (aMn : Nat) (aMt : Nat) (aMk : Nat) (aMs : Nat) (aMl : Nat) (aMx : Nat) (aMd : Nat) (mU : Int32) (mB : Int32) (mI : Int32) (mH : Int32) (mQ : Int32) (mW : Int32) (mF : Int32) (mR : Int32) (mD : Int32) (mJ : Int32) (mA : Int32) (mT : Int32) (nN : Nat → Int32) (nT : Nat → Int32) (nK : Nat → Int32)  (v : Int32 × Int32 × Int32 × Int32 × Int32 × Int32 × Int32 × (Nat → Int32) × (Nat → Int32) × (Nat → Int32)) (hF : f_X8_read mU mR mD mJ mA mT nN nT nK = some v) (sz : Nat) :
    (Met l yX8_read wsX8_read RM_X8_read (PC D (TY K) [(aM, .inr (6, [.ref aMn, .ref aMt, .ref aMk, .int mU, .ref aMs, .int mB, .ref aMl, .int mI, .ref aMx, .int mH, .int mQ, .int mW, .ref aMd, .int mF, .int mR, .int mD, .int mJ, .int mA, .int mT])), (aMn, .inl (K 6, 55, .inl nN)), (aMt, .inl (K 7, 55, .inl nT)), (aMk, .inl (K 8, 440, .inl nK))] [.ref aM] sz) (QI D (TY K) (wf_X8_read K aM aMn aMt aMk aMs aMl aMx aMd mB mI mH mQ mW mF) v (va_A [(aM, .inr (6, [.ref aMn, .ref aMt, .ref aMk, .int mU, .ref aMs, .int mB, .ref aMl, .int mI, .ref aMx, .int mH, .int mQ, .int mW, .ref aMd, .int mF, .int mR, .int mD, .int mJ, .int mA, .int mT])), (aMn, .inl (K 6, 55, .inl nN)), (aMt, .inl (K 7, 55, .inl nT)), (aMk, .inl (K 8, 440, .inl nK))] sz)) MC_X8_read MS_X8_read (va_A [(aM, .inr (6, [.ref aMn, .ref aMt, .ref aMk, .int mU, .ref aMs, .int mB, .ref aMl, .int mI, .ref aMx, .int mH, .int mQ, .int mW, .ref aMd, .int mF, .int mR, .int mD, .int mJ, .int mA, .int mT])), (aMn, .inl (K 6, 55, .inl nN)), (aMt, .inl (K 7, 55, .inl nT)), (aMk, .inl (K 8, 440, .inl nK))] sz)) := by
  refine pro (Qf := fun A => QI D (TY K) (wf_X8_read K aM aMn aMt aMk aMs aMl aMx aMd mB mI mH mQ mW mF) v A) (cc := cX8_read) (maxL := 1) (ret := (some .int)) (by decide +kernel) rfl (Nat.le_of_ble_eq_true rfl) ?_
  intro p e s m args below meth c hx hb hr hts hown hlocks hml hini hK A hA hE hP hD hS ls hl
  have hown : s.vm.findClass RX8 = some m.cls := hown
  have hl : lv_has ls 1 [(0, .ref aM)] := hl
  rw [f_X8_read] at hF
  refine lv_aload_n hx hb dX8_read_0 rfl (lv_at hl 0 rfl) ?_
  obtain ⟨v1, hv1, hF⟩ := oB hF
  refine call_v (wr := [(aMk, .inl (K 8, 440, .inl nK))]) (wn := [(aM, .inr (6, [.ref aMn, .ref aMt, .ref aMk, .int mU, .ref aMs, .int mB, .ref aMl, .int mI, .ref aMx, .int mH, .int mQ, .int mW, .ref aMd, .int mF, .int mR, .int mD, .int mJ, .int mA, .int v1.1])), (aMn, .inl (K 6, 55, .inl nN)), (aMt, .inl (K 7, 55, .inl v1.2)), (aMk, .inl (K 8, 440, .inl nK))]) (va_runV (As := []) (rest := []) ⟨hx, hb, hml, hown, hts⟩ (c_X8_tries l D K aM aMn aMt aMk aMs aMl aMx aMd mU mB mI mH mQ mW mF mR mD mJ mA mT nN nT v1 hv1 s.heap.size) (cwV 0 hts gX8_read_X8_tries rfl rfl rfl (by decide +kernel) ⟨(Nat.le_of_ble_eq_true rfl), (Nat.le_of_ble_eq_true rfl)⟩) (prV hE hK hP hD hS hA [0, 1, 2] rfl rfl 6 0 rfl rfl rfl) rfl rfl hl.1 rfl (lv_room (Nat.le_of_ble_eq_true rfl)) dX8_read_1 ⟨(Nat.le_of_ble_eq_true rfl), (Nat.le_of_ble_eq_true rfl)⟩) hP hD hS hA [0, 1, 2] [3] [1, 2, 3, 0] rfl rfl rfl (by decide) rfl rfl (fun H locs hP hD hS => ?_)
  refine lv_aload_n hx hb dX8_read_4 rfl (lv_at hl 0 rfl) ?_
  refine lv_aload_n hx hb dX8_read_5 rfl (lv_at hl 0 rfl) ?_
  obtain ⟨v2, hv2, hF⟩ := oB hF
  refine call_i (wr := [(aMt, .inl (K 7, 55, .inl v1.2)), (aMk, .inl (K 8, 440, .inl nK))]) (wn := [(aM, .inr (6, [.ref aMn, .ref aMt, .ref aMk, .int mU, .ref aMs, .int mB, .ref aMl, .int mI, .ref aMx, .int mH, .int mQ, .int mW, .ref aMd, .int mF, .int v2.2.1, .int v2.2.2.1, .int v2.2.2.2.1, .int v2.2.2.2.2.1, .int v1.1])), (aMn, .inl (K 6, 55, .inl v2.2.2.2.2.2)), (aMt, .inl (K 7, 55, .inl v1.2)), (aMk, .inl (K 8, 440, .inl nK))]) (va_runV (As := []) (rest := [.ref aM]) ⟨hx, hb, hml, hown, hts⟩ (c_X8_reads l D K aM aMn aMt aMk aMs aMl aMx aMd mU mB mI mH mQ mW mF mR mD mJ mA v1.1 nN v2 hv2 H.size) (cwV 0 hts gX8_read_X8_reads rfl rfl rfl (by decide +kernel) ⟨(Nat.le_of_ble_eq_true rfl), (Nat.le_of_ble_eq_true rfl)⟩) (prV hE hK hP hD hS hA [0, 1] rfl rfl 6 0 rfl rfl rfl) rfl rfl hl.1 rfl (lv_room (Nat.le_of_ble_eq_true rfl)) dX8_read_6 ⟨(Nat.le_of_ble_eq_true rfl), (Nat.le_of_ble_eq_true rfl)⟩) hP hD hS hA [0, 1] [2, 3] [2, 3, 0, 1] rfl rfl rfl (by decide) rfl rfl (fun H locs hP hD hS => ?_)
  obtain ⟨v3, hv3, hF⟩ := oB hF
  refine call_i (wr := [(aMn, .inl (K 6, 55, .inl v2.2.2.2.2.2))]) (wn := [(aM, .inr (6, [.ref aMn, .ref aMt, .ref aMk, .int v3.2.1, .ref aMs, .int mB, .ref aMl, .int mI, .ref aMx, .int mH, .int mQ, .int mW, .ref aMd, .int mF, .int v2.2.1, .int v2.2.2.1, .int v2.2.2.2.1, .int v2.2.2.2.2.1, .int v3.2.2.1])), (aMn, .inl (K 6, 55, .inl v2.2.2.2.2.2)), (aMt, .inl (K 7, 55, .inl v1.2)), (aMk, .inl (K 8, 440, .inl v3.2.2.2))]) (va_runV (As := [.int v2.1]) (rest := []) ⟨hx, hb, hml, hown, hts⟩ (c_X8_ends l D K aM aMn aMt aMk aMs aMl aMx aMd mU mB mI mH mQ mW mF v2.2.1 v2.2.2.1 v2.2.2.2.1 v2.2.2.2.2.1 v1.1 v1.2 nK v2.1 v3 hv3 H.size) (cwV 1 hts gX8_read_X8_ends rfl rfl rfl (by decide +kernel) ⟨(Nat.le_of_ble_eq_true rfl), (Nat.le_of_ble_eq_true rfl)⟩) (prV hE hK hP hD hS hA [0, 2, 3] rfl rfl 6 0 rfl rfl rfl) rfl rfl hl.1 rfl (lv_room (Nat.le_of_ble_eq_true rfl)) dX8_read_9 ⟨(Nat.le_of_ble_eq_true rfl), (Nat.le_of_ble_eq_true rfl)⟩) hP hD hS hA [0, 2, 3] [1] [1, 0, 2, 3] rfl rfl rfl (by decide) rfl rfl (fun H locs hP hD hS => ?_)
  exact fin_i (u := (v3.1, (v3.2.1, v2.2.1, v2.2.2.1, v2.2.2.2.1, v2.2.2.2.2.1, v3.2.2.1, v2.2.2.2.2.2, v1.2, v3.2.2.2))) hF hx hb hr hlocks hK hP hD hS (Nat.le_of_ble_eq_true rfl) (Nat.le_of_ble_eq_true rfl) dX8_read_12
abbrev RM_X8_memberOf : Room := { frames := 2, cells := 0, slots := 0, locals := 43 }
abbrev MC_X8_memberOf : Nat := 0
abbrev MS_X8_memberOf : Nat := 0
abbrev wf_X8_memberOf (K : Nat → ClassId) (aM : Nat) (aMn : Nat) (aMt : Nat) (aMk : Nat) (aMs : Nat) (aMl : Nat) (aMx : Nat) (aMd : Nat) (mU : Int32) (mB : Int32) (mI : Int32) (mH : Int32) (mQ : Int32) (mW : Int32) (mF : Int32) (mR : Int32) (mD : Int32) (mJ : Int32) (mA : Int32) (nN : Nat → Int32) (v : Int32 × Int32) : va_W := [(aM, .inr (6, [.ref aMn, .ref aMt, .ref aMk, .int mU, .ref aMs, .int mB, .ref aMl, .int mI, .ref aMx, .int mH, .int mQ, .int mW, .ref aMd, .int mF, .int mR, .int mD, .int mJ, .int mA, .int v.2])), (aMn, .inl (K 6, 55, .inl nN))]
set_option maxHeartbeats 4000000 in
set_option maxRecDepth 100000 in
theorem c_X8_memberOf (l : Launch) (D : va_G) (K : Nat → ClassId) (aM : Nat) (aMn : Nat) (aMt : Nat) (aMk : Nat) (aMs : Nat) (aMl : Nat) (aMx : Nat) (aMd : Nat) (mU : Int32) (mB : Int32) (mI : Int32) (mH : Int32) (mQ : Int32) (mW : Int32) (mF : Int32) (mR : Int32) (mD : Int32) (mJ : Int32) (mA : Int32) (mT : Int32) (nN : Nat → Int32) (p1 : Int32) (p2 : Int32) (v : Int32 × Int32) (hF : f_X8_memberOf mT nN p1 p2 = some v) (sz : Nat) :
    (Met l yX8_memberOf wsX8_memberOf RM_X8_memberOf (PC D (TY K) [(aM, .inr (6, [.ref aMn, .ref aMt, .ref aMk, .int mU, .ref aMs, .int mB, .ref aMl, .int mI, .ref aMx, .int mH, .int mQ, .int mW, .ref aMd, .int mF, .int mR, .int mD, .int mJ, .int mA, .int mT])), (aMn, .inl (K 6, 55, .inl nN))] [.ref aM, .int p1, .int p2] sz) (QI D (TY K) (wf_X8_memberOf K aM aMn aMt aMk aMs aMl aMx aMd mU mB mI mH mQ mW mF mR mD mJ mA nN) v (va_A [(aM, .inr (6, [.ref aMn, .ref aMt, .ref aMk, .int mU, .ref aMs, .int mB, .ref aMl, .int mI, .ref aMx, .int mH, .int mQ, .int mW, .ref aMd, .int mF, .int mR, .int mD, .int mJ, .int mA, .int mT])), (aMn, .inl (K 6, 55, .inl nN))] sz)) MC_X8_memberOf MS_X8_memberOf (va_A [(aM, .inr (6, [.ref aMn, .ref aMt, .ref aMk, .int mU, .ref aMs, .int mB, .ref aMl, .int mI, .ref aMx, .int mH, .int mQ, .int mW, .ref aMd, .int mF, .int mR, .int mD, .int mJ, .int mA, .int mT])), (aMn, .inl (K 6, 55, .inl nN))] sz)) := by
  refine pro (Qf := fun A => QI D (TY K) (wf_X8_memberOf K aM aMn aMt aMk aMs aMl aMx aMd mU mB mI mH mQ mW mF mR mD mJ mA nN) v A) (cc := cX8_memberOf) (maxL := 3) (ret := (some .int)) (by decide +kernel) rfl (Nat.le_of_ble_eq_true rfl) ?_
  intro p e s m args below meth c hx hb hr hts hown hlocks hml hini hK A hA hE hP hD hS ls hl
  have hown : s.vm.findClass RX8 = some m.cls := hown
  have hl : lv_has ls 3 [(0, .ref aM), (1, .int p1), (2, .int p2)] := hl
  rw [f_X8_memberOf] at hF
  refine lv_aload_n hx hb dX8_memberOf_0 rfl (lv_at hl 0 rfl) ?_
  refine lv_iconst (v := (0 : Int32)) hx hb dX8_memberOf_1 (by decide) ?_
  refine va_put (D := D) (ci := 6) (v := .int (0 : Int32)) (ty := .int) (C := RX8) (T := TX8) (N := 19) hx hb hts (fun _ h => List.mem_cons_of_mem _ (List.mem_append_left _ (List.mem_append_right _ h))) tyX8 tyX8_ok nmX8 hown hK hP hD hS 0 rfl rfl 18 (by decide) (hts (.fieldLink RX8 36 "BarometerClubModel" "thrown" "I") (List.mem_of_getElem? (i := 1) rfl)) (fun _ h9 => h9) rfl (by decide +kernel) rfl rfl (Nat.le_of_ble_eq_true rfl) dX8_memberOf_2 (fun H locs hP hD hS => ?_)
  have hP : va_P D vwC7 [(aM, .inr (6, [.ref aMn, .ref aMt, .ref aMk, .int mU, .ref aMs, .int mB, .ref aMl, .int mI, .ref aMx, .int mH, .int mQ, .int mW, .ref aMd, .int mF, .int mR, .int mD, .int mJ, .int mA, .int (0 : Int32)])), (aMn, .inl (K 6, 55, .inl nN))] H := hP
  have hD : va_D A [(aM, .inr (6, [.ref aMn, .ref aMt, .ref aMk, .int mU, .ref aMs, .int mB, .ref aMl, .int mI, .ref aMx, .int mH, .int mQ, .int mW, .ref aMd, .int mF, .int mR, .int mD, .int mJ, .int mA, .int (0 : Int32)])), (aMn, .inl (K 6, 55, .inl nN))] := hD
  refine lv_aload_n hx hb dX8_memberOf_5 rfl (lv_at hl 0 rfl) ?_
  refine lv_iload_n hx hb dX8_memberOf_6 rfl (lv_at hl 1 rfl) ?_
  obtain ⟨v1, hv1, hF⟩ := oB hF
  refine call_i (wr := []) (wn := [(aM, .inr (6, [.ref aMn, .ref aMt, .ref aMk, .int mU, .ref aMs, .int mB, .ref aMl, .int mI, .ref aMx, .int mH, .int mQ, .int mW, .ref aMd, .int mF, .int mR, .int mD, .int mJ, .int mA, .int (0 : Int32)])), (aMn, .inl (K 6, 55, .inl nN))]) (va_runV (As := [.int p1]) (rest := []) ⟨hx, hb, hml, hown, hts⟩ (c_X8_isMember l D K aM aMn aMt aMk aMs aMl aMx aMd mU mB mI mH mQ mW mF mR mD mJ mA (0 : Int32) nN p1 v1 hv1 H.size) (cwV 1 hts gX8_memberOf_X8_isMember rfl rfl rfl (by decide +kernel) ⟨(Nat.le_of_ble_eq_true rfl), (Nat.le_of_ble_eq_true rfl)⟩) (prV hE hK hP hD hS hA [0, 1] rfl rfl 6 0 rfl rfl rfl) rfl rfl hl.1 rfl (lv_room (Nat.le_of_ble_eq_true rfl)) dX8_memberOf_7 ⟨(Nat.le_of_ble_eq_true rfl), (Nat.le_of_ble_eq_true rfl)⟩) hP hD hS hA [0, 1] [] [0, 1] rfl rfl rfl (by decide) rfl rfl (fun H locs hP hD hS => ?_)
  refine lv_if_ne (tgt := 19) hx hb dX8_memberOf_10 (by decide) (fun c2 => ?_) (fun c2 => ?_)
  · have hF := oF c2 hF
    refine lv_iload_n hx hb dX8_memberOf_19 rfl (lv_at hl 2 rfl) ?_
    refine lv_iconst (v := (0 : Int32)) hx hb dX8_memberOf_20 (by decide) ?_
    refine lv_bipush (v := (6 : Int32)) hx hb dX8_memberOf_21 (by decide) ?_
    obtain ⟨v3, hv3, hF⟩ := oB hF
    refine call_i (wr := [(aM, .inr (6, [.ref aMn, .ref aMt, .ref aMk, .int mU, .ref aMs, .int mB, .ref aMl, .int mI, .ref aMx, .int mH, .int mQ, .int mW, .ref aMd, .int mF, .int mR, .int mD, .int mJ, .int mA, .int (0 : Int32)])), (aMn, .inl (K 6, 55, .inl nN))]) (wn := [(aM, .inr (6, [.ref aMn, .ref aMt, .ref aMk, .int mU, .ref aMs, .int mB, .ref aMl, .int mI, .ref aMx, .int mH, .int mQ, .int mW, .ref aMd, .int mF, .int mR, .int mD, .int mJ, .int mA, .int (0 : Int32)])), (aMn, .inl (K 6, 55, .inl nN))]) (va_runS (As := [.int p2, .int (0 : Int32), .int (6 : Int32)]) (rest := []) ⟨hx, hb, hml, hown, hts⟩ (c_X8_in l D K p2 (0 : Int32) (6 : Int32) v3 hv3 H.size) (va_cwS 3 hts gX8_memberOf_X8_in rfl rfl rfl (by decide +kernel) ⟨(Nat.le_of_ble_eq_true rfl), (Nat.le_of_ble_eq_true rfl)⟩) (prS hE hK hP hD hS hA [] rfl rfl) rfl rfl hl.1 rfl (lv_room (Nat.le_of_ble_eq_true rfl)) dX8_memberOf_23 ⟨(Nat.le_of_ble_eq_true rfl), (Nat.le_of_ble_eq_true rfl)⟩) hP hD hS hA [] [0, 1] [0, 1] rfl rfl rfl (by decide) rfl rfl (fun H locs hP hD hS => ?_)
    refine lv_if_ne (tgt := 35) hx hb dX8_memberOf_26 (by decide) (fun c4 => ?_) (fun c4 => ?_)
    · have hF := oF c4 hF
      refine lv_iload_n hx hb dX8_memberOf_35 rfl (lv_at hl 2 rfl) ?_
      refine lv_iconst (v := (2 : Int32)) hx hb dX8_memberOf_36 (by decide) ?_
      refine lv_icmp_ne (tgt := 52) hx hb dX8_memberOf_37 (by decide) (fun c5 => ?_) (fun c5 => ?_)
      · have hF := oF c5 hF
        refine lv_aload_n hx hb dX8_memberOf_52 rfl (lv_at hl 0 rfl) ?_
        refine lv_iload_n hx hb dX8_memberOf_53 rfl (lv_at hl 1 rfl) ?_
        refine lv_iload_n hx hb dX8_memberOf_54 rfl (lv_at hl 2 rfl) ?_
        obtain ⟨v6, hv6, hF⟩ := oB hF
        refine call_i (wr := []) (wn := [(aM, .inr (6, [.ref aMn, .ref aMt, .ref aMk, .int mU, .ref aMs, .int mB, .ref aMl, .int mI, .ref aMx, .int mH, .int mQ, .int mW, .ref aMd, .int mF, .int mR, .int mD, .int mJ, .int mA, .int (0 : Int32)])), (aMn, .inl (K 6, 55, .inl nN))]) (va_runV (As := [.int p1, .int p2]) (rest := []) ⟨hx, hb, hml, hown, hts⟩ (c_X8_of l D K aM aMn aMt aMk aMs aMl aMx aMd mU mB mI mH mQ mW mF mR mD mJ mA (0 : Int32) nN p1 p2 v6 hv6 H.size) (cwV 2 hts gX8_memberOf_X8_of rfl rfl rfl (by decide +kernel) ⟨(Nat.le_of_ble_eq_true rfl), (Nat.le_of_ble_eq_true rfl)⟩) (prV hE hK hP hD hS hA [0, 1] rfl rfl 6 0 rfl rfl rfl) rfl rfl hl.1 rfl (lv_room (Nat.le_of_ble_eq_true rfl)) dX8_memberOf_55 ⟨(Nat.le_of_ble_eq_true rfl), (Nat.le_of_ble_eq_true rfl)⟩) hP hD hS hA [0, 1] [] [0, 1] rfl rfl rfl (by decide) rfl rfl (fun H locs hP hD hS => ?_)
        exact fin_i (u := (v6.1, (0 : Int32))) hF hx hb hr hlocks hK hP hD hS (Nat.le_of_ble_eq_true rfl) (Nat.le_of_ble_eq_true rfl) dX8_memberOf_58
      · have hF := oT c5 hF
        refine lv_aload_n hx hb dX8_memberOf_40 rfl (lv_at hl 0 rfl) ?_
        refine lv_iload_n hx hb dX8_memberOf_41 rfl (lv_at hl 1 rfl) ?_
        obtain ⟨v7, hv7, hF⟩ := oB hF
        refine call_i (wr := []) (wn := [(aM, .inr (6, [.ref aMn, .ref aMt, .ref aMk, .int mU, .ref aMs, .int mB, .ref aMl, .int mI, .ref aMx, .int mH, .int mQ, .int mW, .ref aMd, .int mF, .int mR, .int mD, .int mJ, .int mA, .int (0 : Int32)])), (aMn, .inl (K 6, 55, .inl nN))]) (va_runV (As := [.int p1]) (rest := []) ⟨hx, hb, hml, hown, hts⟩ (c_X8_hasWagered l D K aM aMn aMt aMk aMs aMl aMx aMd mU mB mI mH mQ mW mF mR mD mJ mA (0 : Int32) nN p1 v7 hv7 H.size) (cwV 1 hts gX8_memberOf_X8_hasWagered rfl rfl rfl (by decide +kernel) ⟨(Nat.le_of_ble_eq_true rfl), (Nat.le_of_ble_eq_true rfl)⟩) (prV hE hK hP hD hS hA [0, 1] rfl rfl 6 0 rfl rfl rfl) rfl rfl hl.1 rfl (lv_room (Nat.le_of_ble_eq_true rfl)) dX8_memberOf_42 ⟨(Nat.le_of_ble_eq_true rfl), (Nat.le_of_ble_eq_true rfl)⟩) hP hD hS hA [0, 1] [] [0, 1] rfl rfl rfl (by decide) rfl rfl (fun H locs hP hD hS => ?_)
        refine lv_if_ne (tgt := 52) hx hb dX8_memberOf_45 (by decide) (fun c8 => ?_) (fun c8 => ?_)
        · have hF := oF c8 hF
          refine lv_aload_n hx hb dX8_memberOf_52 rfl (lv_at hl 0 rfl) ?_
          refine lv_iload_n hx hb dX8_memberOf_53 rfl (lv_at hl 1 rfl) ?_
          refine lv_iload_n hx hb dX8_memberOf_54 rfl (lv_at hl 2 rfl) ?_
          obtain ⟨v9, hv9, hF⟩ := oB hF
          refine call_i (wr := []) (wn := [(aM, .inr (6, [.ref aMn, .ref aMt, .ref aMk, .int mU, .ref aMs, .int mB, .ref aMl, .int mI, .ref aMx, .int mH, .int mQ, .int mW, .ref aMd, .int mF, .int mR, .int mD, .int mJ, .int mA, .int (0 : Int32)])), (aMn, .inl (K 6, 55, .inl nN))]) (va_runV (As := [.int p1, .int p2]) (rest := []) ⟨hx, hb, hml, hown, hts⟩ (c_X8_of l D K aM aMn aMt aMk aMs aMl aMx aMd mU mB mI mH mQ mW mF mR mD mJ mA (0 : Int32) nN p1 p2 v9 hv9 H.size) (cwV 2 hts gX8_memberOf_X8_of rfl rfl rfl (by decide +kernel) ⟨(Nat.le_of_ble_eq_true rfl), (Nat.le_of_ble_eq_true rfl)⟩) (prV hE hK hP hD hS hA [0, 1] rfl rfl 6 0 rfl rfl rfl) rfl rfl hl.1 rfl (lv_room (Nat.le_of_ble_eq_true rfl)) dX8_memberOf_55 ⟨(Nat.le_of_ble_eq_true rfl), (Nat.le_of_ble_eq_true rfl)⟩) hP hD hS hA [0, 1] [] [0, 1] rfl rfl rfl (by decide) rfl rfl (fun H locs hP hD hS => ?_)
          exact fin_i (u := (v9.1, (0 : Int32))) hF hx hb hr hlocks hK hP hD hS (Nat.le_of_ble_eq_true rfl) (Nat.le_of_ble_eq_true rfl) dX8_memberOf_58
        · have hF := oT c8 hF
          refine lv_iconst (v := (-1 : Int32)) hx hb dX8_memberOf_48 (by decide) ?_
          refine lv_goto (tgt := 58) hx hb dX8_memberOf_49 (by decide) ?_
          exact fin_i (u := ((-1 : Int32), (0 : Int32))) hF hx hb hr hlocks hK hP hD hS (Nat.le_of_ble_eq_true rfl) (Nat.le_of_ble_eq_true rfl) dX8_memberOf_58
    · have hF := oT c4 hF
      refine lv_aload_n hx hb dX8_memberOf_29 rfl (lv_at hl 0 rfl) ?_
      refine lv_iconst (v := (2 : Int32)) hx hb dX8_memberOf_30 (by decide) ?_
      obtain ⟨v10, hv10, hF⟩ := oB hF
      refine call_i (wr := [(aMn, .inl (K 6, 55, .inl nN))]) (wn := [(aM, .inr (6, [.ref aMn, .ref aMt, .ref aMk, .int mU, .ref aMs, .int mB, .ref aMl, .int mI, .ref aMx, .int mH, .int mQ, .int mW, .ref aMd, .int mF, .int mR, .int mD, .int mJ, .int mA, .int v10.2])), (aMn, .inl (K 6, 55, .inl nN))]) (va_runV (As := [.int (2 : Int32)]) (rest := []) ⟨hx, hb, hml, hown, hts⟩ (c_X8_raises l D K aM aMn aMt aMk aMs aMl aMx aMd mU mB mI mH mQ mW mF mR mD mJ mA (0 : Int32) (2 : Int32) v10 hv10 H.size) (cwV 1 hts gX8_memberOf_X8_raises rfl rfl rfl (by decide +kernel) ⟨(Nat.le_of_ble_eq_true rfl), (Nat.le_of_ble_eq_true rfl)⟩) (prV hE hK hP hD hS hA [0] rfl rfl 6 0 rfl rfl rfl) rfl rfl hl.1 rfl (lv_room (Nat.le_of_ble_eq_true rfl)) dX8_memberOf_31 ⟨(Nat.le_of_ble_eq_true rfl), (Nat.le_of_ble_eq_true rfl)⟩) hP hD hS hA [0] [1] [1, 0] rfl rfl rfl (by decide) rfl rfl (fun H locs hP hD hS => ?_)
      exact fin_i (u := (v10.1, v10.2)) hF hx hb hr hlocks hK hP hD hS (Nat.le_of_ble_eq_true rfl) (Nat.le_of_ble_eq_true rfl) dX8_memberOf_34
  · have hF := oT c2 hF
    refine lv_aload_n hx hb dX8_memberOf_13 rfl (lv_at hl 0 rfl) ?_
    refine lv_iconst (v := (1 : Int32)) hx hb dX8_memberOf_14 (by decide) ?_
    obtain ⟨v11, hv11, hF⟩ := oB hF
    refine call_i (wr := [(aMn, .inl (K 6, 55, .inl nN))]) (wn := [(aM, .inr (6, [.ref aMn, .ref aMt, .ref aMk, .int mU, .ref aMs, .int mB, .ref aMl, .int mI, .ref aMx, .int mH, .int mQ, .int mW, .ref aMd, .int mF, .int mR, .int mD, .int mJ, .int mA, .int v11.2])), (aMn, .inl (K 6, 55, .inl nN))]) (va_runV (As := [.int (1 : Int32)]) (rest := []) ⟨hx, hb, hml, hown, hts⟩ (c_X8_raises l D K aM aMn aMt aMk aMs aMl aMx aMd mU mB mI mH mQ mW mF mR mD mJ mA (0 : Int32) (1 : Int32) v11 hv11 H.size) (cwV 1 hts gX8_memberOf_X8_raises rfl rfl rfl (by decide +kernel) ⟨(Nat.le_of_ble_eq_true rfl), (Nat.le_of_ble_eq_true rfl)⟩) (prV hE hK hP hD hS hA [0] rfl rfl 6 0 rfl rfl rfl) rfl rfl hl.1 rfl (lv_room (Nat.le_of_ble_eq_true rfl)) dX8_memberOf_15 ⟨(Nat.le_of_ble_eq_true rfl), (Nat.le_of_ble_eq_true rfl)⟩) hP hD hS hA [0] [1] [1, 0] rfl rfl rfl (by decide) rfl rfl (fun H locs hP hD hS => ?_)
    exact fin_i (u := (v11.1, v11.2)) hF hx hb hr hlocks hK hP hD hS (Nat.le_of_ble_eq_true rfl) (Nat.le_of_ble_eq_true rfl) dX8_memberOf_18
abbrev RM_X8_needle : Room := { frames := 2, cells := 0, slots := 0, locals := 44 }
abbrev MC_X8_needle : Nat := 0
abbrev MS_X8_needle : Nat := 0
abbrev wf_X8_needle (K : Nat → ClassId) (aM : Nat) (aMn : Nat) (aMt : Nat) (aMk : Nat) (aMs : Nat) (aMl : Nat) (aMx : Nat) (aMd : Nat) (mU : Int32) (mB : Int32) (mI : Int32) (mH : Int32) (mQ : Int32) (mW : Int32) (mF : Int32) (mR : Int32) (mD : Int32) (mJ : Int32) (mA : Int32) (nN : Nat → Int32) (v : Int32 × Int32) : va_W := [(aM, .inr (6, [.ref aMn, .ref aMt, .ref aMk, .int mU, .ref aMs, .int mB, .ref aMl, .int mI, .ref aMx, .int mH, .int mQ, .int mW, .ref aMd, .int mF, .int mR, .int mD, .int mJ, .int mA, .int v.2])), (aMn, .inl (K 6, 55, .inl nN))]
set_option maxHeartbeats 4000000 in
set_option maxRecDepth 100000 in
theorem c_X8_needle (l : Launch) (D : va_G) (K : Nat → ClassId) (aM : Nat) (aMn : Nat) (aMt : Nat) (aMk : Nat) (aMs : Nat) (aMl : Nat) (aMx : Nat) (aMd : Nat) (mU : Int32) (mB : Int32) (mI : Int32) (mH : Int32) (mQ : Int32) (mW : Int32) (mF : Int32) (mR : Int32) (mD : Int32) (mJ : Int32) (mA : Int32) (mT : Int32) (nN : Nat → Int32) (p1 : Int32) (v : Int32 × Int32) (hF : f_X8_needle mT nN p1 = some v) (sz : Nat) :
    (Met l yX8_needle wsX8_needle RM_X8_needle (PC D (TY K) [(aM, .inr (6, [.ref aMn, .ref aMt, .ref aMk, .int mU, .ref aMs, .int mB, .ref aMl, .int mI, .ref aMx, .int mH, .int mQ, .int mW, .ref aMd, .int mF, .int mR, .int mD, .int mJ, .int mA, .int mT])), (aMn, .inl (K 6, 55, .inl nN))] [.ref aM, .int p1] sz) (QI D (TY K) (wf_X8_needle K aM aMn aMt aMk aMs aMl aMx aMd mU mB mI mH mQ mW mF mR mD mJ mA nN) v (va_A [(aM, .inr (6, [.ref aMn, .ref aMt, .ref aMk, .int mU, .ref aMs, .int mB, .ref aMl, .int mI, .ref aMx, .int mH, .int mQ, .int mW, .ref aMd, .int mF, .int mR, .int mD, .int mJ, .int mA, .int mT])), (aMn, .inl (K 6, 55, .inl nN))] sz)) MC_X8_needle MS_X8_needle (va_A [(aM, .inr (6, [.ref aMn, .ref aMt, .ref aMk, .int mU, .ref aMs, .int mB, .ref aMl, .int mI, .ref aMx, .int mH, .int mQ, .int mW, .ref aMd, .int mF, .int mR, .int mD, .int mJ, .int mA, .int mT])), (aMn, .inl (K 6, 55, .inl nN))] sz)) := by
  refine pro (Qf := fun A => QI D (TY K) (wf_X8_needle K aM aMn aMt aMk aMs aMl aMx aMd mU mB mI mH mQ mW mF mR mD mJ mA nN) v A) (cc := cX8_needle) (maxL := 2) (ret := (some .int)) (by decide +kernel) rfl (Nat.le_of_ble_eq_true rfl) ?_
  intro p e s m args below meth c hx hb hr hts hown hlocks hml hini hK A hA hE hP hD hS ls hl
  have hown : s.vm.findClass RX8 = some m.cls := hown
  have hl : lv_has ls 2 [(0, .ref aM), (1, .int p1)] := hl
  rw [f_X8_needle] at hF
  refine lv_aload_n hx hb dX8_needle_0 rfl (lv_at hl 0 rfl) ?_
  refine lv_aload_n hx hb dX8_needle_1 rfl (lv_at hl 0 rfl) ?_
  refine lv_iload_n hx hb dX8_needle_2 rfl (lv_at hl 1 rfl) ?_
  obtain ⟨v1, hv1, hF⟩ := oB hF
  refine call_i (wr := []) (wn := [(aM, .inr (6, [.ref aMn, .ref aMt, .ref aMk, .int mU, .ref aMs, .int mB, .ref aMl, .int mI, .ref aMx, .int mH, .int mQ, .int mW, .ref aMd, .int mF, .int mR, .int mD, .int mJ, .int mA, .int mT])), (aMn, .inl (K 6, 55, .inl nN))]) (va_runV (As := [.int p1]) (rest := [.ref aM]) ⟨hx, hb, hml, hown, hts⟩ (c_X8_isMember l D K aM aMn aMt aMk aMs aMl aMx aMd mU mB mI mH mQ mW mF mR mD mJ mA mT nN p1 v1 hv1 s.heap.size) (cwV 1 hts gX8_needle_X8_isMember rfl rfl rfl (by decide +kernel) ⟨(Nat.le_of_ble_eq_true rfl), (Nat.le_of_ble_eq_true rfl)⟩) (prV hE hK hP hD hS hA [0, 1] rfl rfl 6 0 rfl rfl rfl) rfl rfl hl.1 rfl (lv_room (Nat.le_of_ble_eq_true rfl)) dX8_needle_3 ⟨(Nat.le_of_ble_eq_true rfl), (Nat.le_of_ble_eq_true rfl)⟩) hP hD hS hA [0, 1] [] [0, 1] rfl rfl rfl (by decide) rfl rfl (fun H locs hP hD hS => ?_)
  refine lv_if_eq (tgt := 13) hx hb dX8_needle_6 (by decide) (fun c2 => ?_) (fun c2 => ?_)
  · have hF := oT c2 hF
    refine lv_iconst (v := (1 : Int32)) hx hb dX8_needle_13 (by decide) ?_
    refine va_put (D := D) (ci := 6) (v := .int (1 : Int32)) (ty := .int) (C := RX8) (T := TX8) (N := 19) hx hb hts (fun _ h => List.mem_cons_of_mem _ (List.mem_append_left _ (List.mem_append_right _ h))) tyX8 tyX8_ok nmX8 hown hK hP hD hS 0 rfl rfl 18 (by decide) (hts (.fieldLink RX8 36 "BarometerClubModel" "thrown" "I") (List.mem_of_getElem? (i := 1) rfl)) (fun _ h9 => h9) rfl (by decide +kernel) rfl rfl (Nat.le_of_ble_eq_true rfl) dX8_needle_14 (fun H locs hP hD hS => ?_)
    have hP : va_P D vwC7 [(aM, .inr (6, [.ref aMn, .ref aMt, .ref aMk, .int mU, .ref aMs, .int mB, .ref aMl, .int mI, .ref aMx, .int mH, .int mQ, .int mW, .ref aMd, .int mF, .int mR, .int mD, .int mJ, .int mA, .int (1 : Int32)])), (aMn, .inl (K 6, 55, .inl nN))] H := hP
    have hD : va_D A [(aM, .inr (6, [.ref aMn, .ref aMt, .ref aMk, .int mU, .ref aMs, .int mB, .ref aMl, .int mI, .ref aMx, .int mH, .int mQ, .int mW, .ref aMd, .int mF, .int mR, .int mD, .int mJ, .int mA, .int (1 : Int32)])), (aMn, .inl (K 6, 55, .inl nN))] := hD
    refine lv_aload_n hx hb dX8_needle_17 rfl (lv_at hl 0 rfl) ?_
    refine va_get (D := D) (ci := 6) (v := .int (1 : Int32)) (C := RX8) (T := TX8) (N := 19) hx hb hts (fun _ h => List.mem_cons_of_mem _ (List.mem_append_left _ (List.mem_append_right _ h))) hown hK hP 0 rfl rfl 18 (by decide) (hts (.fieldLink RX8 36 "BarometerClubModel" "thrown" "I") (List.mem_of_getElem? (i := 1) rfl)) (fun _ h9 => h9) rfl dX8_needle_18 ?_
    refine lv_if_ne (tgt := 38) hx hb dX8_needle_21 (by decide) (fun _ => ?_) (fun c9 => absurd c9 (by decide))
    refine lv_iconst (v := (0 : Int32)) hx hb dX8_needle_38 (by decide) ?_
    exact fin_i (u := ((0 : Int32), (1 : Int32))) hF hx hb hr hlocks hK hP hD hS (Nat.le_of_ble_eq_true rfl) (Nat.le_of_ble_eq_true rfl) dX8_needle_39
  · have hF := oF c2 hF
    refine lv_iconst (v := (0 : Int32)) hx hb dX8_needle_9 (by decide) ?_
    refine lv_goto (tgt := 14) hx hb dX8_needle_10 (by decide) ?_
    refine va_put (D := D) (ci := 6) (v := .int (0 : Int32)) (ty := .int) (C := RX8) (T := TX8) (N := 19) hx hb hts (fun _ h => List.mem_cons_of_mem _ (List.mem_append_left _ (List.mem_append_right _ h))) tyX8 tyX8_ok nmX8 hown hK hP hD hS 0 rfl rfl 18 (by decide) (hts (.fieldLink RX8 36 "BarometerClubModel" "thrown" "I") (List.mem_of_getElem? (i := 1) rfl)) (fun _ h9 => h9) rfl (by decide +kernel) rfl rfl (Nat.le_of_ble_eq_true rfl) dX8_needle_14 (fun H locs hP hD hS => ?_)
    have hP : va_P D vwC7 [(aM, .inr (6, [.ref aMn, .ref aMt, .ref aMk, .int mU, .ref aMs, .int mB, .ref aMl, .int mI, .ref aMx, .int mH, .int mQ, .int mW, .ref aMd, .int mF, .int mR, .int mD, .int mJ, .int mA, .int (0 : Int32)])), (aMn, .inl (K 6, 55, .inl nN))] H := hP
    have hD : va_D A [(aM, .inr (6, [.ref aMn, .ref aMt, .ref aMk, .int mU, .ref aMs, .int mB, .ref aMl, .int mI, .ref aMx, .int mH, .int mQ, .int mW, .ref aMd, .int mF, .int mR, .int mD, .int mJ, .int mA, .int (0 : Int32)])), (aMn, .inl (K 6, 55, .inl nN))] := hD
    refine lv_aload_n hx hb dX8_needle_17 rfl (lv_at hl 0 rfl) ?_
    refine va_get (D := D) (ci := 6) (v := .int (0 : Int32)) (C := RX8) (T := TX8) (N := 19) hx hb hts (fun _ h => List.mem_cons_of_mem _ (List.mem_append_left _ (List.mem_append_right _ h))) hown hK hP 0 rfl rfl 18 (by decide) (hts (.fieldLink RX8 36 "BarometerClubModel" "thrown" "I") (List.mem_of_getElem? (i := 1) rfl)) (fun _ h9 => h9) rfl dX8_needle_18 ?_
    refine lv_if_ne (tgt := 38) hx hb dX8_needle_21 (by decide) (fun c9 => absurd (by decide) c9) (fun _ => ?_)
    refine lv_aload_n hx hb dX8_needle_24 rfl (lv_at hl 0 rfl) ?_
    refine lv_iload_n hx hb dX8_needle_25 rfl (lv_at hl 1 rfl) ?_
    refine lv_aload_n hx hb dX8_needle_26 rfl (lv_at hl 0 rfl) ?_
    refine va_get (D := D) (ci := 6) (v := .ref aMn) (C := RX8) (T := TX8) (N := 19) hx hb hts (fun _ h => List.mem_cons_of_mem _ (List.mem_append_left _ (List.mem_append_right _ h))) hown hK hP 0 rfl rfl 0 (by decide) (hts (.fieldLink RX8 9 "BarometerClubModel" "now" "[I") (List.mem_of_getElem? (i := 2) rfl)) (fun _ h9 => h9) rfl dX8_needle_27 ?_
    refine lv_iconst (v := (1 : Int32)) hx hb dX8_needle_30 (by decide) ?_
    refine va_iald hx hb hK hP 1 6 rfl rfl (inB_in (by decide : inB (1 : Int32) 55 = true)) dX8_needle_31 ?_
    obtain ⟨v5, hv5, hF⟩ := oB hF
    refine call_i (wr := []) (wn := [(aM, .inr (6, [.ref aMn, .ref aMt, .ref aMk, .int mU, .ref aMs, .int mB, .ref aMl, .int mI, .ref aMx, .int mH, .int mQ, .int mW, .ref aMd, .int mF, .int mR, .int mD, .int mJ, .int mA, .int (0 : Int32)])), (aMn, .inl (K 6, 55, .inl nN))]) (va_runV (As := [.int p1, .int (nN (1 : Int32).toNatClampNeg)]) (rest := []) ⟨hx, hb, hml, hown, hts⟩ (c_X8_needleAt l D K aM aMn aMt aMk aMs aMl aMx aMd mU mB mI mH mQ mW mF mR mD mJ mA (0 : Int32) nN p1 (nN (1 : Int32).toNatClampNeg) v5 hv5 H.size) (cwV 2 hts gX8_needle_X8_needleAt rfl rfl rfl (by decide +kernel) ⟨(Nat.le_of_ble_eq_true rfl), (Nat.le_of_ble_eq_true rfl)⟩) (prV hE hK hP hD hS hA [0, 1] rfl rfl 6 0 rfl rfl rfl) rfl rfl hl.1 rfl (lv_room (Nat.le_of_ble_eq_true rfl)) dX8_needle_32 ⟨(Nat.le_of_ble_eq_true rfl), (Nat.le_of_ble_eq_true rfl)⟩) hP hD hS hA [0, 1] [] [0, 1] rfl rfl rfl (by decide) rfl rfl (fun H locs hP hD hS => ?_)
    refine lv_goto (tgt := 39) hx hb dX8_needle_35 (by decide) ?_
    exact fin_i (u := (v5.1, (0 : Int32))) hF hx hb hr hlocks hK hP hD hS (Nat.le_of_ble_eq_true rfl) (Nat.le_of_ble_eq_true rfl) dX8_needle_39
abbrev RM_X8_needleAgain : Room := { frames := 3, cells := 0, slots := 0, locals := 65 }
abbrev MC_X8_needleAgain : Nat := 0
abbrev MS_X8_needleAgain : Nat := 0
abbrev wf_X8_needleAgain (K : Nat → ClassId) (aM : Nat) (aMn : Nat) (aMt : Nat) (aMk : Nat) (aMs : Nat) (aMl : Nat) (aMx : Nat) (aMd : Nat) (mU : Int32) (mB : Int32) (mI : Int32) (mH : Int32) (mQ : Int32) (mW : Int32) (mF : Int32) (mR : Int32) (mD : Int32) (mJ : Int32) (mA : Int32) (nN : Nat → Int32) (v : Int32 × Int32) : va_W := [(aM, .inr (6, [.ref aMn, .ref aMt, .ref aMk, .int mU, .ref aMs, .int mB, .ref aMl, .int mI, .ref aMx, .int mH, .int mQ, .int mW, .ref aMd, .int mF, .int mR, .int mD, .int mJ, .int mA, .int v.2])), (aMn, .inl (K 6, 55, .inl nN))]
set_option maxHeartbeats 4000000 in
set_option maxRecDepth 100000 in
theorem c_X8_needleAgain (l : Launch) (D : va_G) (K : Nat → ClassId) (aM : Nat) (aMn : Nat) (aMt : Nat) (aMk : Nat) (aMs : Nat) (aMl : Nat) (aMx : Nat) (aMd : Nat) (mU : Int32) (mB : Int32) (mI : Int32) (mH : Int32) (mQ : Int32) (mW : Int32) (mF : Int32) (mR : Int32) (mD : Int32) (mJ : Int32) (mA : Int32) (mT : Int32) (nN : Nat → Int32) (p1 : Int32) (v : Int32 × Int32) (hF : f_X8_needleAgain mT nN p1 = some v) (sz : Nat) :
    (Met l yX8_needleAgain wsX8_needleAgain RM_X8_needleAgain (PC D (TY K) [(aM, .inr (6, [.ref aMn, .ref aMt, .ref aMk, .int mU, .ref aMs, .int mB, .ref aMl, .int mI, .ref aMx, .int mH, .int mQ, .int mW, .ref aMd, .int mF, .int mR, .int mD, .int mJ, .int mA, .int mT])), (aMn, .inl (K 6, 55, .inl nN))] [.ref aM, .int p1] sz) (QI D (TY K) (wf_X8_needleAgain K aM aMn aMt aMk aMs aMl aMx aMd mU mB mI mH mQ mW mF mR mD mJ mA nN) v (va_A [(aM, .inr (6, [.ref aMn, .ref aMt, .ref aMk, .int mU, .ref aMs, .int mB, .ref aMl, .int mI, .ref aMx, .int mH, .int mQ, .int mW, .ref aMd, .int mF, .int mR, .int mD, .int mJ, .int mA, .int mT])), (aMn, .inl (K 6, 55, .inl nN))] sz)) MC_X8_needleAgain MS_X8_needleAgain (va_A [(aM, .inr (6, [.ref aMn, .ref aMt, .ref aMk, .int mU, .ref aMs, .int mB, .ref aMl, .int mI, .ref aMx, .int mH, .int mQ, .int mW, .ref aMd, .int mF, .int mR, .int mD, .int mJ, .int mA, .int mT])), (aMn, .inl (K 6, 55, .inl nN))] sz)) := by
  refine pro (Qf := fun A => QI D (TY K) (wf_X8_needleAgain K aM aMn aMt aMk aMs aMl aMx aMd mU mB mI mH mQ mW mF mR mD mJ mA nN) v A) (cc := cX8_needleAgain) (maxL := 2) (ret := (some .int)) (by decide +kernel) rfl (Nat.le_of_ble_eq_true rfl) ?_
  intro p e s m args below meth c hx hb hr hts hown hlocks hml hini hK A hA hE hP hD hS ls hl
  have hown : s.vm.findClass RX8 = some m.cls := hown
  have hl : lv_has ls 2 [(0, .ref aM), (1, .int p1)] := hl
  rw [f_X8_needleAgain] at hF
  refine lv_aload_n hx hb dX8_needleAgain_0 rfl (lv_at hl 0 rfl) ?_
  refine lv_iload_n hx hb dX8_needleAgain_1 rfl (lv_at hl 1 rfl) ?_
  obtain ⟨v1, hv1, hF⟩ := oB hF
  refine call_i (wr := []) (wn := [(aM, .inr (6, [.ref aMn, .ref aMt, .ref aMk, .int mU, .ref aMs, .int mB, .ref aMl, .int mI, .ref aMx, .int mH, .int mQ, .int mW, .ref aMd, .int mF, .int mR, .int mD, .int mJ, .int mA, .int v1.2])), (aMn, .inl (K 6, 55, .inl nN))]) (va_runV (As := [.int p1]) (rest := []) ⟨hx, hb, hml, hown, hts⟩ (c_X8_needle l D K aM aMn aMt aMk aMs aMl aMx aMd mU mB mI mH mQ mW mF mR mD mJ mA mT nN p1 v1 hv1 s.heap.size) (cwV 1 hts gX8_needleAgain_X8_needle rfl rfl rfl (by decide +kernel) ⟨(Nat.le_of_ble_eq_true rfl), (Nat.le_of_ble_eq_true rfl)⟩) (prV hE hK hP hD hS hA [0, 1] rfl rfl 6 0 rfl rfl rfl) rfl rfl hl.1 rfl (lv_room (Nat.le_of_ble_eq_true rfl)) dX8_needleAgain_2 ⟨(Nat.le_of_ble_eq_true rfl), (Nat.le_of_ble_eq_true rfl)⟩) hP hD hS hA [0, 1] [] [0, 1] rfl rfl rfl (by decide) rfl rfl (fun H locs hP hD hS => ?_)
  exact fin_i (u := (v1.1, v1.2)) hF hx hb hr hlocks hK hP hD hS (Nat.le_of_ble_eq_true rfl) (Nat.le_of_ble_eq_true rfl) dX8_needleAgain_5
