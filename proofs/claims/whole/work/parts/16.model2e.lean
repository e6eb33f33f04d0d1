abbrev RM_X8_digits : Room := { frames := 1, cells := 0, slots := 0, locals := 22 }
abbrev MC_X8_digits : Nat := 0
abbrev MS_X8_digits : Nat := 0
abbrev wf_X8_digits (K : Nat → ClassId) (aM : Nat) (aMn : Nat) (aMt : Nat) (aMk : Nat) (aMs : Nat) (aMl : Nat) (aMx : Nat) (aMd : Nat) (mU : Int32) (mB : Int32) (mI : Int32) (mH : Int32) (mW : Int32) (mF : Int32) (mR : Int32) (mD : Int32) (mJ : Int32) (mA : Int32) (mT : Int32) (nX : Nat → Int32) (v : Int32 × Int32 × (Nat → Int32)) : va_W := [(aM, .inr (6, [.ref aMn, .ref aMt, .ref aMk, .int mU, .ref aMs, .int mB, .ref aMl, .int mI, .ref aMx, .int mH, .int v.2.1, .int mW, .ref aMd, .int mF, .int mR, .int mD, .int mJ, .int mA, .int mT])), (aMx, .inl (K 11, 60, .inl nX)), (aMd, .inl (K 12, 3, .inl v.2.2))]
set_option maxHeartbeats 4000000 in
set_option maxRecDepth 100000 in
theorem c_X8_digits (l : Launch) (D : va_G) (K : Nat → ClassId) (aM : Nat) (aMn : Nat) (aMt : Nat) (aMk : Nat) (aMs : Nat) (aMl : Nat) (aMx : Nat) (aMd : Nat) (mU : Int32) (mB : Int32) (mI : Int32) (mH : Int32) (mQ : Int32) (mW : Int32) (mF : Int32) (mR : Int32) (mD : Int32) (mJ : Int32) (mA : Int32) (mT : Int32) (nX : Nat → Int32) (nD : Nat → Int32) (p1 : Int32) (p2 : Int32) (p3 : Int32) (v : Int32 × Int32 × (Nat → Int32)) (hF : f_X8_digits mH mQ nX nD p1 p2 p3 = some v) (sz : Nat) :
    (Met l yX8_digits wsX8_digits RM_X8_digits (PC D (TY K) [(aM, .inr (6, [.ref aMn, .ref aMt, .ref aMk, .int mU, .ref aMs, .int mB, .ref aMl, .int mI, .ref aMx, .int mH, .int mQ, .int mW, .ref aMd, .int mF, .int mR, .int mD, .int mJ, .int mA, .int mT])), (aMx, .inl (K 11, 60, .inl nX)), (aMd, .inl (K 12, 3, .inl nD))] [.ref aM, .int p1, .int p2, .int p3] sz) (QI D (TY K) (wf_X8_digits K aM aMn aMt aMk aMs aMl aMx aMd mU mB mI mH mW mF mR mD mJ mA mT nX) v (va_A [(aM, .inr (6, [.ref aMn, .ref aMt, .ref aMk, .int mU, .ref aMs, .int mB, .ref aMl, .int mI, .ref aMx, .int mH, .int mQ, .int mW, .ref aMd, .int mF, .int mR, .int mD, .int mJ, .int mA, .int mT])), (aMx, .inl (K 11, 60, .inl nX)), (aMd, .inl (K 12, 3, .inl nD))] sz)) MC_X8_digits MS_X8_digits (va_A [(aM, .inr (6, [.ref aMn, .ref aMt, .ref aMk, .int mU, .ref aMs, .int mB, .ref aMl, .int mI, .ref aMx, .int mH, .int mQ, .int mW, .ref aMd, .int mF, .int mR, .int mD, .int mJ, .int mA, .int mT])), (aMx, .inl (K 11, 60, .inl nX)), (aMd, .inl (K 12, 3, .inl nD))] sz)) := by
  refine pro (Qf := fun A => QI D (TY K) (wf_X8_digits K aM aMn aMt aMk aMs aMl aMx aMd mU mB mI mH mW mF mR mD mJ mA mT nX) v A) (cc := cX8_digits) (maxL := 5) (ret := (some .boolean)) (by decide +kernel) rfl (Nat.le_of_ble_eq_true rfl) ?_
  intro p e s m args below meth c hx hb hr hts hown hlocks hml hini hK A hA hE hP hD hS ls hl
  have hown : s.vm.findClass RX8 = some m.cls := hown
  have hl : lv_has ls 5 [(0, .ref aM), (1, .int p1), (2, .int p2), (3, .int p3)] := hl
  have loop_10 : ∀ (y10_1 : Int32) (y10_2 : Int32) (y10_3 : Int32) (n : Nat) (y10_4 : Int32) (mQ_10 : Int32) (nD_10 : Nat → Int32), f_X8_digits_L10 mH nX y10_1 y10_2 y10_3 n y10_4 mQ_10 nD_10 = some v → ∀ (H : Heap) (locs : List Loc), va_P D vwC7 [(aM, .inr (6, [.ref aMn, .ref aMt, .ref aMk, .int mU, .ref aMs, .int mB, .ref aMl, .int mI, .ref aMx, .int mH, .int mQ_10, .int mW, .ref aMd, .int mF, .int mR, .int mD, .int mJ, .int mA, .int mT])), (aMx, .inl (K 11, 60, .inl nX)), (aMd, .inl (K 12, 3, .inl nD_10))] H → va_D A [(aM, .inr (6, [.ref aMn, .ref aMt, .ref aMk, .int mU, .ref aMs, .int mB, .ref aMl, .int mI, .ref aMx, .int mH, .int mQ_10, .int mW, .ref aMd, .int mF, .int mR, .int mD, .int mJ, .int mA, .int mT])), (aMx, .inl (K 11, 60, .inl nX)), (aMd, .inl (K 12, 3, .inl nD_10))] → va_S A s.heap H locs → ∀ ls : Array Slot, lv_has ls 5 [(0, .ref aM), (1, .int y10_1), (2, .int y10_2), (3, .int y10_3), (4, .int y10_4)] → W p l e RM_X8_digits s m args below meth c H locs 0 0 (MQ below (QI D (TY K) (wf_X8_digits K aM aMn aMt aMk aMs aMl aMx aMd mU mB mI mH mW mF mR mD mJ mA mT nX) v A) args s MC_X8_digits MS_X8_digits A) (F0 m 10 ls []) := by
    intro y10_1 y10_2 y10_3 n
    induction n with
    | zero =>
      intro y10_4 mQ_10 nD_10 hF
      exact nomatch hF
    | succ n ih =>
      intro y10_4 mQ_10 nD_10 hF H locs hP hD hS ls hl
      rw [f_X8_digits_L10.eq_2] at hF
      refine lv_iload hx hb dX8_digits_10 (lv_at hl 4 rfl) ?_
      refine lv_iload_n hx hb dX8_digits_12 rfl (lv_at hl 3 rfl) ?_
      refine lv_icmp_ge (tgt := 87) hx hb dX8_digits_13 (by decide) (fun c2 => ?_) (fun c2 => ?_)
      · have hF := oT c2 hF
        refine lv_iload hx hb dX8_digits_87 (lv_at hl 4 rfl) ?_
        refine lv_iload_n hx hb dX8_digits_89 rfl (lv_at hl 2 rfl) ?_
        refine lv_icmp_lt (tgt := 97) hx hb dX8_digits_90 (by decide) (fun c3 => ?_) (fun c3 => ?_)
        · have hF := oT c3 hF
          refine lv_iconst (v := (0 : Int32)) hx hb dX8_digits_97 (by decide) ?_
          exact fin_z (u := ((0 : Int32), (mQ_10, nD_10))) hF (okN_n (ty := .boolean) (x := (0 : Int32)) (by decide)) hx hb hr hlocks hK hP hD hS (Nat.le_of_ble_eq_true rfl) (Nat.le_of_ble_eq_true rfl) dX8_digits_98
        · have hF := oF c3 hF
          refine lv_iconst (v := (1 : Int32)) hx hb dX8_digits_93 (by decide) ?_
          refine lv_goto (tgt := 98) hx hb dX8_digits_94 (by decide) ?_
          exact fin_z (u := ((1 : Int32), (mQ_10, nD_10))) hF (okN_n (ty := .boolean) (x := (1 : Int32)) (by decide)) hx hb hr hlocks hK hP hD hS (Nat.le_of_ble_eq_true rfl) (Nat.le_of_ble_eq_true rfl) dX8_digits_98
      · have hF := oF c2 hF
        refine lv_aload_n hx hb dX8_digits_16 rfl (lv_at hl 0 rfl) ?_
        refine va_get (D := D) (ci := 6) (v := .int mQ_10) (C := RX8) (T := TX8) (N := 19) hx hb hts (fun _ h => List.mem_cons_of_mem _ (List.mem_append_left _ (List.mem_append_right _ h))) hown hK hP 0 rfl rfl 10 (by decide) (hts (.fieldLink RX8 179 "BarometerClubModel" "at" "I") (List.mem_of_getElem? (i := 2) rfl)) (fun _ h9 => h9) rfl dX8_digits_17 ?_
        refine lv_aload_n hx hb dX8_digits_20 rfl (lv_at hl 0 rfl) ?_
        refine va_get (D := D) (ci := 6) (v := .int mH) (C := RX8) (T := TX8) (N := 19) hx hb hts (fun _ h => List.mem_cons_of_mem _ (List.mem_append_left _ (List.mem_append_right _ h))) hown hK hP 0 rfl rfl 9 (by decide) (hts (.fieldLink RX8 176 "BarometerClubModel" "length" "I") (List.mem_of_getElem? (i := 3) rfl)) (fun _ h9 => h9) rfl dX8_digits_21 ?_
        refine lv_icmp_ge (tgt := 87) hx hb dX8_digits_24 (by decide) (fun c4 => ?_) (fun c4 => ?_)
        · have hF := oT c4 hF
          refine lv_iload hx hb dX8_digits_87 (lv_at hl 4 rfl) ?_
          refine lv_iload_n hx hb dX8_digits_89 rfl (lv_at hl 2 rfl) ?_
          refine lv_icmp_lt (tgt := 97) hx hb dX8_digits_90 (by decide) (fun c5 => ?_) (fun c5 => ?_)
          · have hF := oT c5 hF
            refine lv_iconst (v := (0 : Int32)) hx hb dX8_digits_97 (by decide) ?_
            exact fin_z (u := ((0 : Int32), (mQ_10, nD_10))) hF (okN_n (ty := .boolean) (x := (0 : Int32)) (by decide)) hx hb hr hlocks hK hP hD hS (Nat.le_of_ble_eq_true rfl) (Nat.le_of_ble_eq_true rfl) dX8_digits_98
          · have hF := oF c5 hF
            refine lv_iconst (v := (1 : Int32)) hx hb dX8_digits_93 (by decide) ?_
            refine lv_goto (tgt := 98) hx hb dX8_digits_94 (by decide) ?_
            exact fin_z (u := ((1 : Int32), (mQ_10, nD_10))) hF (okN_n (ty := .boolean) (x := (1 : Int32)) (by decide)) hx hb hr hlocks hK hP hD hS (Nat.le_of_ble_eq_true rfl) (Nat.le_of_ble_eq_true rfl) dX8_digits_98
        · have hF := oF c4 hF
          refine lv_aload_n hx hb dX8_digits_27 rfl (lv_at hl 0 rfl) ?_
          refine va_get (D := D) (ci := 6) (v := .ref aMx) (C := RX8) (T := TX8) (N := 19) hx hb hts (fun _ h => List.mem_cons_of_mem _ (List.mem_append_left _ (List.mem_append_right _ h))) hown hK hP 0 rfl rfl 8 (by decide) (hts (.fieldLink RX8 26 "BarometerClubModel" "text" "[C") (List.mem_of_getElem? (i := 4) rfl)) (fun _ h9 => h9) rfl dX8_digits_28 ?_
          refine lv_aload_n hx hb dX8_digits_31 rfl (lv_at hl 0 rfl) ?_
          refine va_get (D := D) (ci := 6) (v := .int mQ_10) (C := RX8) (T := TX8) (N := 19) hx hb hts (fun _ h => List.mem_cons_of_mem _ (List.mem_append_left _ (List.mem_append_right _ h))) hown hK hP 0 rfl rfl 10 (by decide) (hts (.fieldLink RX8 179 "BarometerClubModel" "at" "I") (List.mem_of_getElem? (i := 2) rfl)) (fun _ h9 => h9) rfl dX8_digits_32 ?_
          obtain ⟨g6, hF⟩ := oG hF
          refine va_cald hx hb hK hP 1 11 rfl rfl (inB_in g6) dX8_digits_35 ?_
          refine lv_bipush (v := (48 : Int32)) hx hb dX8_digits_36 (by decide) ?_
          refine lv_bipush (v := (57 : Int32)) hx hb dX8_digits_38 (by decide) ?_
          obtain ⟨v7, hv7, hF⟩ := oB hF
          refine call_i (wr := [(aM, .inr (6, [.ref aMn, .ref aMt, .ref aMk, .int mU, .ref aMs, .int mB, .ref aMl, .int mI, .ref aMx, .int mH, .int mQ_10, .int mW, .ref aMd, .int mF, .int mR, .int mD, .int mJ, .int mA, .int mT])), (aMx, .inl (K 11, 60, .inl nX)), (aMd, .inl (K 12, 3, .inl nD_10))]) (wn := [(aM, .inr (6, [.ref aMn, .ref aMt, .ref aMk, .int mU, .ref aMs, .int mB, .ref aMl, .int mI, .ref aMx, .int mH, .int mQ_10, .int mW, .ref aMd, .int mF, .int mR, .int mD, .int mJ, .int mA, .int mT])), (aMx, .inl (K 11, 60, .inl nX)), (aMd, .inl (K 12, 3, .inl nD_10))]) (va_runS (As := [.int (nX mQ_10.toNatClampNeg), .int (48 : Int32), .int (57 : Int32)]) (rest := []) ⟨hx, hb, hml, hown, hts⟩ (c_X8_in l D K (nX mQ_10.toNatClampNeg) (48 : Int32) (57 : Int32) v7 hv7 H.size) (va_cwS 3 hts gX8_digits_X8_in rfl rfl rfl (by decide +kernel) ⟨(Nat.le_of_ble_eq_true rfl), (Nat.le_of_ble_eq_true rfl)⟩) (prS hE hK hP hD hS hA [] rfl rfl) rfl rfl hl.1 rfl (lv_room (Nat.le_of_ble_eq_true rfl)) dX8_digits_40 ⟨(Nat.le_of_ble_eq_true rfl), (Nat.le_of_ble_eq_true rfl)⟩) hP hD hS hA [] [0, 1, 2] [0, 1, 2] rfl rfl rfl (by decide) rfl rfl (fun H locs hP hD hS => ?_)
          refine lv_if_eq (tgt := 87) hx hb dX8_digits_43 (by decide) (fun c8 => ?_) (fun c8 => ?_)
          · have hF := oT c8 hF
            refine lv_iload hx hb dX8_digits_87 (lv_at hl 4 rfl) ?_
            refine lv_iload_n hx hb dX8_digits_89 rfl (lv_at hl 2 rfl) ?_
            refine lv_icmp_lt (tgt := 97) hx hb dX8_digits_90 (by decide) (fun c9 => ?_) (fun c9 => ?_)
            · have hF := oT c9 hF
              refine lv_iconst (v := (0 : Int32)) hx hb dX8_digits_97 (by decide) ?_
              exact fin_z (u := ((0 : Int32), (mQ_10, nD_10))) hF (okN_n (ty := .boolean) (x := (0 : Int32)) (by decide)) hx hb hr hlocks hK hP hD hS (Nat.le_of_ble_eq_true rfl) (Nat.le_of_ble_eq_true rfl) dX8_digits_98
            · have hF := oF c9 hF
              refine lv_iconst (v := (1 : Int32)) hx hb dX8_digits_93 (by decide) ?_
              refine lv_goto (tgt := 98) hx hb dX8_digits_94 (by decide) ?_
              exact fin_z (u := ((1 : Int32), (mQ_10, nD_10))) hF (okN_n (ty := .boolean) (x := (1 : Int32)) (by decide)) hx hb hr hlocks hK hP hD hS (Nat.le_of_ble_eq_true rfl) (Nat.le_of_ble_eq_true rfl) dX8_digits_98
          · have hF := oF c8 hF
            refine lv_aload_n hx hb dX8_digits_46 rfl (lv_at hl 0 rfl) ?_
            refine va_get (D := D) (ci := 6) (v := .ref aMd) (C := RX8) (T := TX8) (N := 19) hx hb hts (fun _ h => List.mem_cons_of_mem _ (List.mem_append_left _ (List.mem_append_right _ h))) hown hK hP 0 rfl rfl 12 (by decide) (hts (.fieldLink RX8 29 "BarometerClubModel" "told" "[I") (List.mem_of_getElem? (i := 1) rfl)) (fun _ h9 => h9) rfl dX8_digits_47 ?_
            refine lv_iload_n hx hb dX8_digits_50 rfl (lv_at hl 1 rfl) ?_
            refine lv_bipush (v := (10 : Int32)) hx hb dX8_digits_51 (by decide) ?_
            refine lv_aload_n hx hb dX8_digits_53 rfl (lv_at hl 0 rfl) ?_
            refine va_get (D := D) (ci := 6) (v := .ref aMd) (C := RX8) (T := TX8) (N := 19) hx hb hts (fun _ h => List.mem_cons_of_mem _ (List.mem_append_left _ (List.mem_append_right _ h))) hown hK hP 0 rfl rfl 12 (by decide) (hts (.fieldLink RX8 29 "BarometerClubModel" "told" "[I") (List.mem_of_getElem? (i := 1) rfl)) (fun _ h9 => h9) rfl dX8_digits_54 ?_
            refine lv_iload_n hx hb dX8_digits_57 rfl (lv_at hl 1 rfl) ?_
            obtain ⟨g10, hF⟩ := oG hF
            refine va_iald hx hb hK hP 2 12 rfl rfl (inB_in g10) dX8_digits_58 ?_
            refine lv_imul hx hb dX8_digits_59 ?_
            refine lv_aload_n hx hb dX8_digits_60 rfl (lv_at hl 0 rfl) ?_
            refine va_get (D := D) (ci := 6) (v := .ref aMx) (C := RX8) (T := TX8) (N := 19) hx hb hts (fun _ h => List.mem_cons_of_mem _ (List.mem_append_left _ (List.mem_append_right _ h))) hown hK hP 0 rfl rfl 8 (by decide) (hts (.fieldLink RX8 26 "BarometerClubModel" "text" "[C") (List.mem_of_getElem? (i := 4) rfl)) (fun _ h9 => h9) rfl dX8_digits_61 ?_
            refine lv_aload_n hx hb dX8_digits_64 rfl (lv_at hl 0 rfl) ?_
            refine lv_dup hx hb dX8_digits_65 rfl ?_
            refine va_get (D := D) (ci := 6) (v := .int mQ_10) (C := RX8) (T := TX8) (N := 19) hx hb hts (fun _ h => List.mem_cons_of_mem _ (List.mem_append_left _ (List.mem_append_right _ h))) hown hK hP 0 rfl rfl 10 (by decide) (hts (.fieldLink RX8 179 "BarometerClubModel" "at" "I") (List.mem_of_getElem? (i := 2) rfl)) (fun _ h9 => h9) rfl dX8_digits_66 ?_
            refine lv_dup_x1 hx hb dX8_digits_69 rfl rfl ?_
            refine lv_iconst (v := (1 : Int32)) hx hb dX8_digits_70 (by decide) ?_
            refine lv_iadd hx hb dX8_digits_71 ?_
            refine va_put (D := D) (ci := 6) (v := .int (mQ_10 + (1 : Int32))) (ty := .int) (C := RX8) (T := TX8) (N := 19) hx hb hts (fun _ h => List.mem_cons_of_mem _ (List.mem_append_left _ (List.mem_append_right _ h))) tyX8 tyX8_ok nmX8 hown hK hP hD hS 0 rfl rfl 10 (by decide) (hts (.fieldLink RX8 179 "BarometerClubModel" "at" "I") (List.mem_of_getElem? (i := 2) rfl)) (fun _ h9 => h9) rfl (by decide +kernel) rfl rfl (Nat.le_of_ble_eq_true rfl) dX8_digits_72 (fun H locs hP hD hS => ?_)
            have hP : va_P D vwC7 [(aM, .inr (6, [.ref aMn, .ref aMt, .ref aMk, .int mU, .ref aMs, .int mB, .ref aMl, .int mI, .ref aMx, .int mH, .int (mQ_10 + (1 : Int32)), .int mW, .ref aMd, .int mF, .int mR, .int mD, .int mJ, .int mA, .int mT])), (aMx, .inl (K 11, 60, .inl nX)), (aMd, .inl (K 12, 3, .inl nD_10))] H := hP
            have hD : va_D A [(aM, .inr (6, [.ref aMn, .ref aMt, .ref aMk, .int mU, .ref aMs, .int mB, .ref aMl, .int mI, .ref aMx, .int mH, .int (mQ_10 + (1 : Int32)), .int mW, .ref aMd, .int mF, .int mR, .int mD, .int mJ, .int mA, .int mT])), (aMx, .inl (K 11, 60, .inl nX)), (aMd, .inl (K 12, 3, .inl nD_10))] := hD
            obtain ⟨g11, hF⟩ := oG hF
            refine va_cald hx hb hK hP 1 11 rfl rfl (inB_in g11) dX8_digits_75 ?_
            refine lv_iadd hx hb dX8_digits_76 ?_
            refine lv_bipush (v := (48 : Int32)) hx hb dX8_digits_77 (by decide) ?_
            refine lv_isub hx hb dX8_digits_79 ?_
            obtain ⟨g12, hF⟩ := oG hF
            refine va_iast hx hb hK hP hD hS 2 12 rfl rfl (inB_in g12) dX8_digits_80 (fun H locs hP hD hS => ?_)
            have hP : va_P D vwC7 [(aM, .inr (6, [.ref aMn, .ref aMt, .ref aMk, .int mU, .ref aMs, .int mB, .ref aMl, .int mI, .ref aMx, .int mH, .int (mQ_10 + (1 : Int32)), .int mW, .ref aMd, .int mF, .int mR, .int mD, .int mJ, .int mA, .int mT])), (aMx, .inl (K 11, 60, .inl nX)), (aMd, .inl (K 12, 3, .inl (upd nD_10 y10_1.toNatClampNeg ((((10 : Int32) * (nD_10 y10_1.toNatClampNeg)) + (nX mQ_10.toNatClampNeg)) - (48 : Int32)))))] H := hP
            have hD : va_D A [(aM, .inr (6, [.ref aMn, .ref aMt, .ref aMk, .int mU, .ref aMs, .int mB, .ref aMl, .int mI, .ref aMx, .int mH, .int (mQ_10 + (1 : Int32)), .int mW, .ref aMd, .int mF, .int mR, .int mD, .int mJ, .int mA, .int mT])), (aMx, .inl (K 11, 60, .inl nX)), (aMd, .inl (K 12, 3, .inl (upd nD_10 y10_1.toNatClampNeg ((((10 : Int32) * (nD_10 y10_1.toNatClampNeg)) + (nX mQ_10.toNatClampNeg)) - (48 : Int32)))))] := hD
            refine lv_iinc (v := y10_4 + (1 : Int32)) (lv' := [(4, .int (y10_4 + (1 : Int32))), (0, .ref aM), (1, .int y10_1), (2, .int y10_2), (3, .int y10_3)]) hx hb dX8_digits_81 hl (k := 4) rfl (by first | rfl | decide) (by decide) rfl (fun ls hl => ?_)
            refine lv_goto (tgt := 10) hx hb dX8_digits_84 (by decide) ?_
            exact ih (y10_4 + (1 : Int32)) (mQ_10 + (1 : Int32)) (upd nD_10 y10_1.toNatClampNeg ((((10 : Int32) * (nD_10 y10_1.toNatClampNeg)) + (nX mQ_10.toNatClampNeg)) - (48 : Int32))) hF _ _ hP hD hS _ (lv_sub hl [1, 2, 3, 4, 0] rfl)
  rw [f_X8_digits] at hF
  refine lv_iconst (v := (0 : Int32)) hx hb dX8_digits_0 (by decide) ?_
  refine lv_istore (lv' := [(4, .int (0 : Int32)), (0, .ref aM), (1, .int p1), (2, .int p2), (3, .int p3)]) hx hb dX8_digits_1 hl (by decide) rfl (fun ls hl => ?_)
  refine lv_aload_n hx hb dX8_digits_3 rfl (lv_at hl 1 rfl) ?_
  refine va_get (D := D) (ci := 6) (v := .ref aMd) (C := RX8) (T := TX8) (N := 19) hx hb hts (fun _ h => List.mem_cons_of_mem _ (List.mem_append_left _ (List.mem_append_right _ h))) hown hK hP 0 rfl rfl 12 (by decide) (hts (.fieldLink RX8 29 "BarometerClubModel" "told" "[I") (List.mem_of_getElem? (i := 1) rfl)) (fun _ h9 => h9) rfl dX8_digits_4 ?_
  refine lv_iload_n hx hb dX8_digits_7 rfl (lv_at hl 2 rfl) ?_
  refine lv_iconst (v := (0 : Int32)) hx hb dX8_digits_8 (by decide) ?_
  obtain ⟨g1, hF⟩ := oG hF
  refine va_iast hx hb hK hP hD hS 2 12 rfl rfl (inB_in g1) dX8_digits_9 (fun H locs hP hD hS => ?_)
  have hP : va_P D vwC7 [(aM, .inr (6, [.ref aMn, .ref aMt, .ref aMk, .int mU, .ref aMs, .int mB, .ref aMl, .int mI, .ref aMx, .int mH, .int mQ, .int mW, .ref aMd, .int mF, .int mR, .int mD, .int mJ, .int mA, .int mT])), (aMx, .inl (K 11, 60, .inl nX)), (aMd, .inl (K 12, 3, .inl (upd nD p1.toNatClampNeg (0 : Int32))))] H := hP
  have hD : va_D A [(aM, .inr (6, [.ref aMn, .ref aMt, .ref aMk, .int mU, .ref aMs, .int mB, .ref aMl, .int mI, .ref aMx, .int mH, .int mQ, .int mW, .ref aMd, .int mF, .int mR, .int mD, .int mJ, .int mA, .int mT])), (aMx, .inl (K 11, 60, .inl nX)), (aMd, .inl (K 12, 3, .inl (upd nD p1.toNatClampNeg (0 : Int32))))] := hD
  exact loop_10 p1 p2 p3 FU (0 : Int32) mQ (upd nD p1.toNatClampNeg (0 : Int32)) hF _ _ hP hD hS _ (lv_sub hl [1, 2, 3, 4, 0] rfl)
abbrev RM_X8_isChange : Room := { frames := 2, cells := 0, slots := 0, locals := 46 }
abbrev MC_X8_isChange : Nat := 0
abbrev MS_X8_isChange : Nat := 0
abbrev wf_X8_isChange (K : Nat → ClassId) (aM : Nat) (aMn : Nat) (aMt : Nat) (aMk : Nat) (aMs : Nat) (aMl : Nat) (aMx : Nat) (aMd : Nat) (mU : Int32) (mB : Int32) (mI : Int32) (mH : Int32) (mW : Int32) (mF : Int32) (mR : Int32) (mD : Int32) (mJ : Int32) (mA : Int32) (mT : Int32) (nX : Nat → Int32) (v : Int32 × Int32 × (Nat → Int32)) : va_W := [(aM, .inr (6, [.ref aMn, .ref aMt, .ref aMk, .int mU, .ref aMs, .int mB, .ref aMl, .int mI, .ref aMx, .int mH, .int v.2.1, .int mW, .ref aMd, .int mF, .int mR, .int mD, .int mJ, .int mA, .int mT])), (aMx, .inl (K 11, 60, .inl nX)), (aMd, .inl (K 12, 3, .inl v.2.2))]
set_option maxHeartbeats 4000000 in
set_option maxRecDepth 100000 in
theorem c_X8_isChange (l : Launch) (D : va_G) (K : Nat → ClassId) (aM : Nat) (aMn : Nat) (aMt : Nat) (aMk : Nat) (aMs : Nat) (aMl : Nat) (aMx : Nat) (aMd : Nat) (mU : Int32) (mB : Int32) (mI : Int32) (mH : Int32) (mQ : Int32) (mW : Int32) (mF : Int32) (mR : Int32) (mD : Int32) (mJ : Int32) (mA : Int32) (mT : Int32) (nX : Nat → Int32) (nD : Nat → Int32)  (v : Int32 × Int32 × (Nat → Int32)) (hF : f_X8_isChange mH mQ nX nD = some v) (sz : Nat) :
    (Met l yX8_isChange wsX8_isChange RM_X8_isChange (PC D (TY K) [(aM, .inr (6, [.ref aMn, .ref aMt, .ref aMk, .int mU, .ref aMs, .int mB, .ref aMl, .int mI, .ref aMx, .int mH, .int mQ, .int mW, .ref aMd, .int mF, .int mR, .int mD, .int mJ, .int mA, .int mT])), (aMx, .inl (K 11, 60, .inl nX)), (aMd, .inl (K 12, 3, .inl nD))] [.ref aM] sz) (QI D (TY K) (wf_X8_isChange K aM aMn aMt aMk aMs aMl aMx aMd mU mB mI mH mW mF mR mD mJ mA mT nX) v (va_A [(aM, .inr (6, [.ref aMn, .ref aMt, .ref aMk, .int mU, .ref aMs, .int mB, .ref aMl, .int mI, .ref aMx, .int mH, .int mQ, .int mW, .ref aMd, .int mF, .int mR, .int mD, .int mJ, .int mA, .int mT])), (aMx, .inl (K 11, 60, .inl nX)), (aMd, .inl (K 12, 3, .inl nD))] sz)) MC_X8_isChange MS_X8_isChange (va_A [(aM, .inr (6, [.ref aMn, .ref aMt, .ref aMk, .int mU, .ref aMs, .int mB, .ref aMl, .int mI, .ref aMx, .int mH, .int mQ, .int mW, .ref aMd, .int mF, .int mR, .int mD, .int mJ, .int mA, .int mT])), (aMx, .inl (K 11, 60, .inl nX)), (aMd, .inl (K 12, 3, .inl nD))] sz)) := by
  refine pro (Qf := fun A => QI D (TY K) (wf_X8_isChange K aM aMn aMt aMk aMs aMl aMx aMd mU mB mI mH mW mF mR mD mJ mA mT nX) v A) (cc := cX8_isChange) (maxL := 2) (ret := (some .boolean)) (by decide +kernel) rfl (Nat.le_of_ble_eq_true rfl) ?_
  intro p e s m args below meth c hx hb hr hts hown hlocks hml hini hK A hA hE hP hD hS ls hl
  have hown : s.vm.findClass RX8 = some m.cls := hown
  have hl : lv_has ls 2 [(0, .ref aM)] := hl
  rw [f_X8_isChange] at hF
  refine lv_aload_n hx hb dX8_isChange_0 rfl (lv_at hl 0 rfl) ?_
  refine va_get (D := D) (ci := 6) (v := .int mQ) (C := RX8) (T := TX8) (N := 19) hx hb hts (fun _ h => List.mem_cons_of_mem _ (List.mem_append_left _ (List.mem_append_right _ h))) hown hK hP 0 rfl rfl 10 (by decide) (hts (.fieldLink RX8 179 "BarometerClubModel" "at" "I") (List.mem_of_getElem? (i := 1) rfl)) (fun _ h9 => h9) rfl dX8_isChange_1 ?_
  refine lv_aload_n hx hb dX8_isChange_4 rfl (lv_at hl 0 rfl) ?_
  refine va_get (D := D) (ci := 6) (v := .int mH) (C := RX8) (T := TX8) (N := 19) hx hb hts (fun _ h => List.mem_cons_of_mem _ (List.mem_append_left _ (List.mem_append_right _ h))) hown hK hP 0 rfl rfl 9 (by decide) (hts (.fieldLink RX8 176 "BarometerClubModel" "length" "I") (List.mem_of_getElem? (i := 2) rfl)) (fun _ h9 => h9) rfl dX8_isChange_5 ?_
  refine lv_icmp_ge (tgt := 29) hx hb dX8_isChange_8 (by decide) (fun c1 => ?_) (fun c1 => ?_)
  · have hF := oT c1 hF
    refine lv_iconst (v := (0 : Int32)) hx hb dX8_isChange_29 (by decide) ?_
    refine lv_istore_n (lv' := [(1, .int (0 : Int32)), (0, .ref aM)]) hx hb dX8_isChange_30 rfl hl (by decide) rfl (fun ls hl => ?_)
    refine lv_aload_n hx hb dX8_isChange_31 rfl (lv_at hl 1 rfl) ?_
    refine lv_iload_n hx hb dX8_isChange_32 rfl (lv_at hl 0 rfl) ?_
    refine lv_if_eq (tgt := 41) hx hb dX8_isChange_33 (by decide) (fun _ => ?_) (fun c9 => absurd (by decide) c9)
    refine lv_bipush (v := (43 : Int32)) hx hb dX8_isChange_41 (by decide) ?_
    obtain ⟨v3, hv3, hF⟩ := oB hF
    refine call_i (wr := [(aMd, .inl (K 12, 3, .inl nD))]) (wn := [(aM, .inr (6, [.ref aMn, .ref aMt, .ref aMk, .int mU, .ref aMs, .int mB, .ref aMl, .int mI, .ref aMx, .int mH, .int v3.2, .int mW, .ref aMd, .int mF, .int mR, .int mD, .int mJ, .int mA, .int mT])), (aMx, .inl (K 11, 60, .inl nX)), (aMd, .inl (K 12, 3, .inl nD))]) (va_runV (As := [.int (43 : Int32)]) (rest := []) ⟨hx, hb, hml, hown, hts⟩ (c_X8_takes l D K aM aMn aMt aMk aMs aMl aMx aMd mU mB mI mH mQ mW mF mR mD mJ mA mT nX (43 : Int32) v3 hv3 s.heap.size) (cwV 1 hts gX8_isChange_X8_takes rfl rfl rfl (by decide +kernel) ⟨(Nat.le_of_ble_eq_true rfl), (Nat.le_of_ble_eq_true rfl)⟩) (prV hE hK hP hD hS hA [0, 1] rfl rfl 6 0 rfl rfl rfl) rfl rfl hl.1 rfl (lv_room (Nat.le_of_ble_eq_true rfl)) dX8_isChange_43 ⟨(Nat.le_of_ble_eq_true rfl), (Nat.le_of_ble_eq_true rfl)⟩) hP hD hS hA [0, 1] [2] [1, 2, 0] rfl rfl rfl (by decide) rfl rfl (fun H locs hP hD hS => ?_)
    refine lv_if_eq (tgt := 59) hx hb dX8_isChange_46 (by decide) (fun c4 => ?_) (fun c4 => ?_)
    · have hF := oT c4 hF
      refine lv_iconst (v := (0 : Int32)) hx hb dX8_isChange_59 (by decide) ?_
      exact fin_z (u := ((0 : Int32), (v3.2, nD))) hF (okN_n (ty := .boolean) (x := (0 : Int32)) (by decide)) hx hb hr hlocks hK hP hD hS (Nat.le_of_ble_eq_true rfl) (Nat.le_of_ble_eq_true rfl) dX8_isChange_60
    · have hF := oF c4 hF
      refine lv_aload_n hx hb dX8_isChange_49 rfl (lv_at hl 1 rfl) ?_
      refine lv_iconst (v := (0 : Int32)) hx hb dX8_isChange_50 (by decide) ?_
      refine lv_iconst (v := (1 : Int32)) hx hb dX8_isChange_51 (by decide) ?_
      refine lv_iconst (v := (2 : Int32)) hx hb dX8_isChange_52 (by decide) ?_
      obtain ⟨v5, hv5, hF⟩ := oB hF
      refine call_i (wr := []) (wn := [(aM, .inr (6, [.ref aMn, .ref aMt, .ref aMk, .int mU, .ref aMs, .int mB, .ref aMl, .int mI, .ref aMx, .int mH, .int v5.2.1, .int mW, .ref aMd, .int mF, .int mR, .int mD, .int mJ, .int mA, .int mT])), (aMx, .inl (K 11, 60, .inl nX)), (aMd, .inl (K 12, 3, .inl v5.2.2))]) (va_runV (As := [.int (0 : Int32), .int (1 : Int32), .int (2 : Int32)]) (rest := []) ⟨hx, hb, hml, hown, hts⟩ (c_X8_digits l D K aM aMn aMt aMk aMs aMl aMx aMd mU mB mI mH v3.2 mW mF mR mD mJ mA mT nX nD (0 : Int32) (1 : Int32) (2 : Int32) v5 hv5 H.size) (cwV 3 hts gX8_isChange_X8_digits rfl rfl rfl (by decide +kernel) ⟨(Nat.le_of_ble_eq_true rfl), (Nat.le_of_ble_eq_true rfl)⟩) (prV hE hK hP hD hS hA [0, 1, 2] rfl rfl 6 0 rfl rfl rfl) rfl rfl hl.1 rfl (lv_room (Nat.le_of_ble_eq_true rfl)) dX8_isChange_53 ⟨(Nat.le_of_ble_eq_true rfl), (Nat.le_of_ble_eq_true rfl)⟩) hP hD hS hA [0, 1, 2] [] [0, 1, 2] rfl rfl rfl (by decide) rfl rfl (fun H locs hP hD hS => ?_)
      refine lv_if_ne (tgt := 61) hx hb dX8_isChange_56 (by decide) (fun c6 => ?_) (fun c6 => ?_)
      · have hF := oF c6 hF
        refine lv_iload_n hx hb dX8_isChange_61 rfl (lv_at hl 0 rfl) ?_
        refine lv_if_eq (tgt := 78) hx hb dX8_isChange_62 (by decide) (fun _ => ?_) (fun c9 => absurd (by decide) c9)
        refine lv_iconst (v := (1 : Int32)) hx hb dX8_isChange_78 (by decide) ?_
        exact fin_z (u := ((1 : Int32), (v5.2.1, v5.2.2))) hF (okN_n (ty := .boolean) (x := (1 : Int32)) (by decide)) hx hb hr hlocks hK hP hD hS (Nat.le_of_ble_eq_true rfl) (Nat.le_of_ble_eq_true rfl) dX8_isChange_79
      · have hF := oT c6 hF
        refine lv_iconst (v := (0 : Int32)) hx hb dX8_isChange_59 (by decide) ?_
        exact fin_z (u := ((0 : Int32), (v5.2.1, v5.2.2))) hF (okN_n (ty := .boolean) (x := (0 : Int32)) (by decide)) hx hb hr hlocks hK hP hD hS (Nat.le_of_ble_eq_true rfl) (Nat.le_of_ble_eq_true rfl) dX8_isChange_60
  · have hF := oF c1 hF
    refine lv_aload_n hx hb dX8_isChange_11 rfl (lv_at hl 0 rfl) ?_
    refine va_get (D := D) (ci := 6) (v := .ref aMx) (C := RX8) (T := TX8) (N := 19) hx hb hts (fun _ h => List.mem_cons_of_mem _ (List.mem_append_left _ (List.mem_append_right _ h))) hown hK hP 0 rfl rfl 8 (by decide) (hts (.fieldLink RX8 26 "BarometerClubModel" "text" "[C") (List.mem_of_getElem? (i := 3) rfl)) (fun _ h9 => h9) rfl dX8_isChange_12 ?_
    refine lv_aload_n hx hb dX8_isChange_15 rfl (lv_at hl 0 rfl) ?_
    refine va_get (D := D) (ci := 6) (v := .int mQ) (C := RX8) (T := TX8) (N := 19) hx hb hts (fun _ h => List.mem_cons_of_mem _ (List.mem_append_left _ (List.mem_append_right _ h))) hown hK hP 0 rfl rfl 10 (by decide) (hts (.fieldLink RX8 179 "BarometerClubModel" "at" "I") (List.mem_of_getElem? (i := 1) rfl)) (fun _ h9 => h9) rfl dX8_isChange_16 ?_
    obtain ⟨g8, hF⟩ := oG hF
    refine va_cald hx hb hK hP 1 11 rfl rfl (inB_in g8) dX8_isChange_19 ?_
    refine lv_bipush (v := (45 : Int32)) hx hb dX8_isChange_20 (by decide) ?_
    refine lv_icmp_ne (tgt := 29) hx hb dX8_isChange_22 (by decide) (fun c9 => ?_) (fun c9 => ?_)
    · have hF := oF c9 hF
      refine lv_iconst (v := (0 : Int32)) hx hb dX8_isChange_29 (by decide) ?_
      refine lv_istore_n (lv' := [(1, .int (0 : Int32)), (0, .ref aM)]) hx hb dX8_isChange_30 rfl hl (by decide) rfl (fun ls hl => ?_)
      refine lv_aload_n hx hb dX8_isChange_31 rfl (lv_at hl 1 rfl) ?_
      refine lv_iload_n hx hb dX8_isChange_32 rfl (lv_at hl 0 rfl) ?_
      refine lv_if_eq (tgt := 41) hx hb dX8_isChange_33 (by decide) (fun _ => ?_) (fun c9 => absurd (by decide) c9)
      refine lv_bipush (v := (43 : Int32)) hx hb dX8_isChange_41 (by decide) ?_
      obtain ⟨v11, hv11, hF⟩ := oB hF
      refine call_i (wr := [(aMd, .inl (K 12, 3, .inl nD))]) (wn := [(aM, .inr (6, [.ref aMn, .ref aMt, .ref aMk, .int mU, .ref aMs, .int mB, .ref aMl, .int mI, .ref aMx, .int mH, .int v11.2, .int mW, .ref aMd, .int mF, .int mR, .int mD, .int mJ, .int mA, .int mT])), (aMx, .inl (K 11, 60, .inl nX)), (aMd, .inl (K 12, 3, .inl nD))]) (va_runV (As := [.int (43 : Int32)]) (rest := []) ⟨hx, hb, hml, hown, hts⟩ (c_X8_takes l D K aM aMn aMt aMk aMs aMl aMx aMd mU mB mI mH mQ mW mF mR mD mJ mA mT nX (43 : Int32) v11 hv11 s.heap.size) (cwV 1 hts gX8_isChange_X8_takes rfl rfl rfl (by decide +kernel) ⟨(Nat.le_of_ble_eq_true rfl), (Nat.le_of_ble_eq_true rfl)⟩) (prV hE hK hP hD hS hA [0, 1] rfl rfl 6 0 rfl rfl rfl) rfl rfl hl.1 rfl (lv_room (Nat.le_of_ble_eq_true rfl)) dX8_isChange_43 ⟨(Nat.le_of_ble_eq_true rfl), (Nat.le_of_ble_eq_true rfl)⟩) hP hD hS hA [0, 1] [2] [1, 2, 0] rfl rfl rfl (by decide) rfl rfl (fun H locs hP hD hS => ?_)
      refine lv_if_eq (tgt := 59) hx hb dX8_isChange_46 (by decide) (fun c12 => ?_) (fun c12 => ?_)
      · have hF := oT c12 hF
        refine lv_iconst (v := (0 : Int32)) hx hb dX8_isChange_59 (by decide) ?_
        exact fin_z (u := ((0 : Int32), (v11.2, nD))) hF (okN_n (ty := .boolean) (x := (0 : Int32)) (by decide)) hx hb hr hlocks hK hP hD hS (Nat.le_of_ble_eq_true rfl) (Nat.le_of_ble_eq_true rfl) dX8_isChange_60
      · have hF := oF c12 hF
        refine lv_aload_n hx hb dX8_isChange_49 rfl (lv_at hl 1 rfl) ?_
        refine lv_iconst (v := (0 : Int32)) hx hb dX8_isChange_50 (by decide) ?_
        refine lv_iconst (v := (1 : Int32)) hx hb dX8_isChange_51 (by decide) ?_
        refine lv_iconst (v := (2 : Int32)) hx hb dX8_isChange_52 (by decide) ?_
        obtain ⟨v13, hv13, hF⟩ := oB hF
        refine call_i (wr := []) (wn := [(aM, .inr (6, [.ref aMn, .ref aMt, .ref aMk, .int mU, .ref aMs, .int mB, .ref aMl, .int mI, .ref aMx, .int mH, .int v13.2.1, .int mW, .ref aMd, .int mF, .int mR, .int mD, .int mJ, .int mA, .int mT])), (aMx, .inl (K 11, 60, .inl nX)), (aMd, .inl (K 12, 3, .inl v13.2.2))]) (va_runV (As := [.int (0 : Int32), .int (1 : Int32), .int (2 : Int32)]) (rest := []) ⟨hx, hb, hml, hown, hts⟩ (c_X8_digits l D K aM aMn aMt aMk aMs aMl aMx aMd mU mB mI mH v11.2 mW mF mR mD mJ mA mT nX nD (0 : Int32) (1 : Int32) (2 : Int32) v13 hv13 H.size) (cwV 3 hts gX8_isChange_X8_digits rfl rfl rfl (by decide +kernel) ⟨(Nat.le_of_ble_eq_true rfl), (Nat.le_of_ble_eq_true rfl)⟩) (prV hE hK hP hD hS hA [0, 1, 2] rfl rfl 6 0 rfl rfl rfl) rfl rfl hl.1 rfl (lv_room (Nat.le_of_ble_eq_true rfl)) dX8_isChange_53 ⟨(Nat.le_of_ble_eq_true rfl), (Nat.le_of_ble_eq_true rfl)⟩) hP hD hS hA [0, 1, 2] [] [0, 1, 2] rfl rfl rfl (by decide) rfl rfl (fun H locs hP hD hS => ?_)
        refine lv_if_ne (tgt := 61) hx hb dX8_isChange_56 (by decide) (fun c14 => ?_) (fun c14 => ?_)
        · have hF := oF c14 hF
          refine lv_iload_n hx hb dX8_isChange_61 rfl (lv_at hl 0 rfl) ?_
          refine lv_if_eq (tgt := 78) hx hb dX8_isChange_62 (by decide) (fun _ => ?_) (fun c9 => absurd (by decide) c9)
          refine lv_iconst (v := (1 : Int32)) hx hb dX8_isChange_78 (by decide) ?_
          exact fin_z (u := ((1 : Int32), (v13.2.1, v13.2.2))) hF (okN_n (ty := .boolean) (x := (1 : Int32)) (by decide)) hx hb hr hlocks hK hP hD hS (Nat.le_of_ble_eq_true rfl) (Nat.le_of_ble_eq_true rfl) dX8_isChange_79
        · have hF := oT c14 hF
          refine lv_iconst (v := (0 : Int32)) hx hb dX8_isChange_59 (by decide) ?_
          exact fin_z (u := ((0 : Int32), (v13.2.1, v13.2.2))) hF (okN_n (ty := .boolean) (x := (0 : Int32)) (by decide)) hx hb hr hlocks hK hP hD hS (Nat.le_of_ble_eq_true rfl) (Nat.le_of_ble_eq_true rfl) dX8_isChange_60
    · have hF := oT c9 hF
      refine lv_iconst (v := (1 : Int32)) hx hb dX8_isChange_25 (by decide) ?_
      refine lv_goto (tgt := 30) hx hb dX8_isChange_26 (by decide) ?_
      refine lv_istore_n (lv' := [(1, .int (1 : Int32)), (0, .ref aM)]) hx hb dX8_isChange_30 rfl hl (by decide) rfl (fun ls hl => ?_)
      refine lv_aload_n hx hb dX8_isChange_31 rfl (lv_at hl 1 rfl) ?_
      refine lv_iload_n hx hb dX8_isChange_32 rfl (lv_at hl 0 rfl) ?_
      refine lv_if_eq (tgt := 41) hx hb dX8_isChange_33 (by decide) (fun c9 => absurd c9 (by decide)) (fun _ => ?_)
      refine lv_bipush (v := (45 : Int32)) hx hb dX8_isChange_36 (by decide) ?_
      refine lv_goto (tgt := 43) hx hb dX8_isChange_38 (by decide) ?_
      obtain ⟨v17, hv17, hF⟩ := oB hF
      refine call_i (wr := [(aMd, .inl (K 12, 3, .inl nD))]) (wn := [(aM, .inr (6, [.ref aMn, .ref aMt, .ref aMk, .int mU, .ref aMs, .int mB, .ref aMl, .int mI, .ref aMx, .int mH, .int v17.2, .int mW, .ref aMd, .int mF, .int mR, .int mD, .int mJ, .int mA, .int mT])), (aMx, .inl (K 11, 60, .inl nX)), (aMd, .inl (K 12, 3, .inl nD))]) (va_runV (As := [.int (45 : Int32)]) (rest := []) ⟨hx, hb, hml, hown, hts⟩ (c_X8_takes l D K aM aMn aMt aMk aMs aMl aMx aMd mU mB mI mH mQ mW mF mR mD mJ mA mT nX (45 : Int32) v17 hv17 s.heap.size) (cwV 1 hts gX8_isChange_X8_takes rfl rfl rfl (by decide +kernel) ⟨(Nat.le_of_ble_eq_true rfl), (Nat.le_of_ble_eq_true rfl)⟩) (prV hE hK hP hD hS hA [0, 1] rfl rfl 6 0 rfl rfl rfl) rfl rfl hl.1 rfl (lv_room (Nat.le_of_ble_eq_true rfl)) dX8_isChange_43 ⟨(Nat.le_of_ble_eq_true rfl), (Nat.le_of_ble_eq_true rfl)⟩) hP hD hS hA [0, 1] [2] [1, 2, 0] rfl rfl rfl (by decide) rfl rfl (fun H locs hP hD hS => ?_)
      refine lv_if_eq (tgt := 59) hx hb dX8_isChange_46 (by decide) (fun c18 => ?_) (fun c18 => ?_)
      · have hF := oT c18 hF
        refine lv_iconst (v := (0 : Int32)) hx hb dX8_isChange_59 (by decide) ?_
        exact fin_z (u := ((0 : Int32), (v17.2, nD))) hF (okN_n (ty := .boolean) (x := (0 : Int32)) (by decide)) hx hb hr hlocks hK hP hD hS (Nat.le_of_ble_eq_true rfl) (Nat.le_of_ble_eq_true rfl) dX8_isChange_60
      · have hF := oF c18 hF
        refine lv_aload_n hx hb dX8_isChange_49 rfl (lv_at hl 1 rfl) ?_
        refine lv_iconst (v := (0 : Int32)) hx hb dX8_isChange_50 (by decide) ?_
        refine lv_iconst (v := (1 : Int32)) hx hb dX8_isChange_51 (by decide) ?_
        refine lv_iconst (v := (2 : Int32)) hx hb dX8_isChange_52 (by decide) ?_
        obtain ⟨v19, hv19, hF⟩ := oB hF
        refine call_i (wr := []) (wn := [(aM, .inr (6, [.ref aMn, .ref aMt, .ref aMk, .int mU, .ref aMs, .int mB, .ref aMl, .int mI, .ref aMx, .int mH, .int v19.2.1, .int mW, .ref aMd, .int mF, .int mR, .int mD, .int mJ, .int mA, .int mT])), (aMx, .inl (K 11, 60, .inl nX)), (aMd, .inl (K 12, 3, .inl v19.2.2))]) (va_runV (As := [.int (0 : Int32), .int (1 : Int32), .int (2 : Int32)]) (rest := []) ⟨hx, hb, hml, hown, hts⟩ (c_X8_digits l D K aM aMn aMt aMk aMs aMl aMx aMd mU mB mI mH v17.2 mW mF mR mD mJ mA mT nX nD (0 : Int32) (1 : Int32) (2 : Int32) v19 hv19 H.size) (cwV 3 hts gX8_isChange_X8_digits rfl rfl rfl (by decide +kernel) ⟨(Nat.le_of_ble_eq_true rfl), (Nat.le_of_ble_eq_true rfl)⟩) (prV hE hK hP hD hS hA [0, 1, 2] rfl rfl 6 0 rfl rfl rfl) rfl rfl hl.1 rfl (lv_room (Nat.le_of_ble_eq_true rfl)) dX8_isChange_53 ⟨(Nat.le_of_ble_eq_true rfl), (Nat.le_of_ble_eq_true rfl)⟩) hP hD hS hA [0, 1, 2] [] [0, 1, 2] rfl rfl rfl (by decide) rfl rfl (fun H locs hP hD hS => ?_)
        refine lv_if_ne (tgt := 61) hx hb dX8_isChange_56 (by decide) (fun c20 => ?_) (fun c20 => ?_)
        · have hF := oF c20 hF
          refine lv_iload_n hx hb dX8_isChange_61 rfl (lv_at hl 0 rfl) ?_
          refine lv_if_eq (tgt := 78) hx hb dX8_isChange_62 (by decide) (fun c9 => absurd c9 (by decide)) (fun _ => ?_)
          refine lv_aload_n hx hb dX8_isChange_65 rfl (lv_at hl 1 rfl) ?_
          refine va_get (D := D) (ci := 6) (v := .ref aMd) (C := RX8) (T := TX8) (N := 19) hx hb hts (fun _ h => List.mem_cons_of_mem _ (List.mem_append_left _ (List.mem_append_right _ h))) hown hK hP 0 rfl rfl 12 (by decide) (hts (.fieldLink RX8 29 "BarometerClubModel" "told" "[I") (List.mem_of_getElem? (i := 4) rfl)) (fun _ h9 => h9) rfl dX8_isChange_66 ?_
          refine lv_iconst (v := (0 : Int32)) hx hb dX8_isChange_69 (by decide) ?_
          refine lv_aload_n hx hb dX8_isChange_70 rfl (lv_at hl 1 rfl) ?_
          refine va_get (D := D) (ci := 6) (v := .ref aMd) (C := RX8) (T := TX8) (N := 19) hx hb hts (fun _ h => List.mem_cons_of_mem _ (List.mem_append_left _ (List.mem_append_right _ h))) hown hK hP 0 rfl rfl 12 (by decide) (hts (.fieldLink RX8 29 "BarometerClubModel" "told" "[I") (List.mem_of_getElem? (i := 4) rfl)) (fun _ h9 => h9) rfl dX8_isChange_71 ?_
          refine lv_iconst (v := (0 : Int32)) hx hb dX8_isChange_74 (by decide) ?_
          refine va_iald hx hb hK hP 2 12 rfl rfl (inB_in (by decide : inB (0 : Int32) 3 = true)) dX8_isChange_75 ?_
          refine lv_ineg hx hb dX8_isChange_76 ?_
          refine va_iast hx hb hK hP hD hS 2 12 rfl rfl (inB_in (by decide : inB (0 : Int32) 3 = true)) dX8_isChange_77 (fun H locs hP hD hS => ?_)
          have hP : va_P D vwC7 [(aM, .inr (6, [.ref aMn, .ref aMt, .ref aMk, .int mU, .ref aMs, .int mB, .ref aMl, .int mI, .ref aMx, .int mH, .int v19.2.1, .int mW, .ref aMd, .int mF, .int mR, .int mD, .int mJ, .int mA, .int mT])), (aMx, .inl (K 11, 60, .inl nX)), (aMd, .inl (K 12, 3, .inl (upd v19.2.2 (0 : Int32).toNatClampNeg (-(v19.2.2 (0 : Int32).toNatClampNeg)))))] H := hP
          have hD : va_D A [(aM, .inr (6, [.ref aMn, .ref aMt, .ref aMk, .int mU, .ref aMs, .int mB, .ref aMl, .int mI, .ref aMx, .int mH, .int v19.2.1, .int mW, .ref aMd, .int mF, .int mR, .int mD, .int mJ, .int mA, .int mT])), (aMx, .inl (K 11, 60, .inl nX)), (aMd, .inl (K 12, 3, .inl (upd v19.2.2 (0 : Int32).toNatClampNeg (-(v19.2.2 (0 : Int32).toNatClampNeg)))))] := hD
          refine lv_iconst (v := (1 : Int32)) hx hb dX8_isChange_78 (by decide) ?_
          exact fin_z (u := ((1 : Int32), (v19.2.1, upd v19.2.2 (0 : Int32).toNatClampNeg (-(v19.2.2 (0 : Int32).toNatClampNeg))))) hF (okN_n (ty := .boolean) (x := (1 : Int32)) (by decide)) hx hb hr hlocks hK hP hD hS (Nat.le_of_ble_eq_true rfl) (Nat.le_of_ble_eq_true rfl) dX8_isChange_79
        · have hF := oT c20 hF
          refine lv_iconst (v := (0 : Int32)) hx hb dX8_isChange_59 (by decide) ?_
          exact fin_z (u := ((0 : Int32), (v19.2.1, v19.2.2))) hF (okN_n (ty := .boolean) (x := (0 : Int32)) (by decide)) hx hb hr hlocks hK hP hD hS (Nat.le_of_ble_eq_true rfl) (Nat.le_of_ble_eq_true rfl) dX8_isChange_60
abbrev RM_X8_isCommand : Room := { frames := 4, cells := 0, slots := 0, locals := 91 }
abbrev MC_X8_isCommand : Nat := 0
abbrev MS_X8_isCommand : Nat := 0
abbrev wf_X8_isCommand (K : Nat → ClassId) (aM : Nat) (aMn : Nat) (aMt : Nat) (aMk : Nat) (aMs : Nat) (aMl : Nat) (aMx : Nat) (aMd : Nat) (mU : Int32) (mB : Int32) (mI : Int32) (mH : Int32) (mF : Int32) (mR : Int32) (mD : Int32) (mJ : Int32) (mA : Int32) (mT : Int32) (nX : Nat → Int32) (v : Int32 × Int32 × Int32 × (Nat → Int32)) : va_W := [(aM, .inr (6, [.ref aMn, .ref aMt, .ref aMk, .int mU, .ref aMs, .int mB, .ref aMl, .int mI, .ref aMx, .int mH, .int v.2.1, .int v.2.2.1, .ref aMd, .int mF, .int mR, .int mD, .int mJ, .int mA, .int mT])), (aMx, .inl (K 11, 60, .inl nX)), (aMd, .inl (K 12, 3, .inl v.2.2.2))]
set_option maxHeartbeats 4000000 in
set_option maxRecDepth 100000 in
theorem c_X8_isCommand (l : Launch) (D : va_G) (K : Nat → ClassId) (aM : Nat) (aMn : Nat) (aMt : Nat) (aMk : Nat) (aMs : Nat) (aMl : Nat) (aMx : Nat) (aMd : Nat) (mU : Int32) (mB : Int32) (mI : Int32) (mH : Int32) (mQ : Int32) (mW : Int32) (mF : Int32) (mR : Int32) (mD : Int32) (mJ : Int32) (mA : Int32) (mT : Int32) (nX : Nat → Int32) (nD : Nat → Int32)  (v : Int32 × Int32 × Int32 × (Nat → Int32)) (hF : f_X8_isCommand mH mQ mW nX nD = some v) (sz : Nat) :
    (Met l yX8_isCommand wsX8_isCommand RM_X8_isCommand (PC D (TY K) [(aM, .inr (6, [.ref aMn, .ref aMt, .ref aMk, .int mU, .ref aMs, .int mB, .ref aMl, .int mI, .ref aMx, .int mH, .int mQ, .int mW, .ref aMd, .int mF, .int mR, .int mD, .int mJ, .int mA, .int mT])), (aMx, .inl (K 11, 60, .inl nX)), (aMd, .inl (K 12, 3, .inl nD))] [.ref aM] sz) (QI D (TY K) (wf_X8_isCommand K aM aMn aMt aMk aMs aMl aMx aMd mU mB mI mH mF mR mD mJ mA mT nX) v (va_A [(aM, .inr (6, [.ref aMn, .ref aMt, .ref aMk, .int mU, .ref aMs, .int mB, .ref aMl, .int mI, .ref aMx, .int mH, .int mQ, .int mW, .ref aMd, .int mF, .int mR, .int mD, .int mJ, .int mA, .int mT])), (aMx, .inl (K 11, 60, .inl nX)), (aMd, .inl (K 12, 3, .inl nD))] sz)) MC_X8_isCommand MS_X8_isCommand (va_A [(aM, .inr (6, [.ref aMn, .ref aMt, .ref aMk, .int mU, .ref aMs, .int mB, .ref aMl, .int mI, .ref aMx, .int mH, .int mQ, .int mW, .ref aMd, .int mF, .int mR, .int mD, .int mJ, .int mA, .int mT])), (aMx, .inl (K 11, 60, .inl nX)), (aMd, .inl (K 12, 3, .inl nD))] sz)) := by
  refine pro (Qf := fun A => QI D (TY K) (wf_X8_isCommand K aM aMn aMt aMk aMs aMl aMx aMd mU mB mI mH mF mR mD mJ mA mT nX) v A) (cc := cX8_isCommand) (maxL := 1) (ret := (some .boolean)) (by decide +kernel) rfl (Nat.le_of_ble_eq_true rfl) ?_
  intro p e s m args below meth c hx hb hr hts hown hlocks hml hini hK A hA hE hP hD hS ls hl
  have hown : s.vm.findClass RX8 = some m.cls := hown
  have hl : lv_has ls 1 [(0, .ref aM)] := hl
  rw [f_X8_isCommand] at hF
  refine lv_aload_n hx hb dX8_isCommand_0 rfl (lv_at hl 0 rfl) ?_
  refine va_get (D := D) (ci := 6) (v := .int mQ) (C := RX8) (T := TX8) (N := 19) hx hb hts (fun _ h => List.mem_cons_of_mem _ (List.mem_append_left _ (List.mem_append_left _ (List.mem_append_right _ h)))) hown hK hP 0 rfl rfl 10 (by decide) (hts (.fieldLink RX8 179 "BarometerClubModel" "at" "I") (List.mem_of_getElem? (i := 1) rfl)) (fun _ h9 => h9) rfl dX8_isCommand_1 ?_
  refine lv_aload_n hx hb dX8_isCommand_4 rfl (lv_at hl 0 rfl) ?_
  refine va_get (D := D) (ci := 6) (v := .int mH) (C := RX8) (T := TX8) (N := 19) hx hb hts (fun _ h => List.mem_cons_of_mem _ (List.mem_append_left _ (List.mem_append_left _ (List.mem_append_right _ h)))) hown hK hP 0 rfl rfl 9 (by decide) (hts (.fieldLink RX8 176 "BarometerClubModel" "length" "I") (List.mem_of_getElem? (i := 2) rfl)) (fun _ h9 => h9) rfl dX8_isCommand_5 ?_
  refine lv_icmp_eq (tgt := 28) hx hb dX8_isCommand_8 (by decide) (fun c1 => ?_) (fun c1 => ?_)
  · have hF := oT c1 hF
    refine lv_iconst (v := (0 : Int32)) hx hb dX8_isCommand_28 (by decide) ?_
    exact fin_z (u := ((0 : Int32), (mQ, mW, nD))) hF (okN_n (ty := .boolean) (x := (0 : Int32)) (by decide)) hx hb hr hlocks hK hP hD hS (Nat.le_of_ble_eq_true rfl) (Nat.le_of_ble_eq_true rfl) dX8_isCommand_29
  · have hF := oF c1 hF
    obtain ⟨aK, aV, hV, hVR⟩ := hE.2.2.2.2.2.2.2.1
    refine va_ldcS hx hb hown hVR dX8_isCommand_11 ?_
    refine lv_aload_n hx hb dX8_isCommand_13 rfl (lv_at hl 0 rfl) ?_
    refine va_get (D := D) (ci := 6) (v := .ref aMx) (C := RX8) (T := TX8) (N := 19) hx hb hts (fun _ h => List.mem_cons_of_mem _ (List.mem_append_left _ (List.mem_append_left _ (List.mem_append_right _ h)))) hown hK hP 0 rfl rfl 8 (by decide) (hts (.fieldLink RX8 26 "BarometerClubModel" "text" "[C") (List.mem_of_getElem? (i := 3) rfl)) (fun _ h9 => h9) rfl dX8_isCommand_14 ?_
    refine lv_aload_n hx hb dX8_isCommand_17 rfl (lv_at hl 0 rfl) ?_
    refine va_get (D := D) (ci := 6) (v := .int mQ) (C := RX8) (T := TX8) (N := 19) hx hb hts (fun _ h => List.mem_cons_of_mem _ (List.mem_append_left _ (List.mem_append_left _ (List.mem_append_right _ h)))) hown hK hP 0 rfl rfl 10 (by decide) (hts (.fieldLink RX8 179 "BarometerClubModel" "at" "I") (List.mem_of_getElem? (i := 1) rfl)) (fun _ h9 => h9) rfl dX8_isCommand_18 ?_
    obtain ⟨g2, hF⟩ := oG hF
    refine va_cald hx hb hK hP 1 11 rfl rfl (inB_in g2) dX8_isCommand_21 ?_
    obtain ⟨v3, hv3, hF⟩ := oB hF
    refine call_i (wr := [(aM, .inr (6, [.ref aMn, .ref aMt, .ref aMk, .int mU, .ref aMs, .int mB, .ref aMl, .int mI, .ref aMx, .int mH, .int mQ, .int mW, .ref aMd, .int mF, .int mR, .int mD, .int mJ, .int mA, .int mT])), (aMx, .inl (K 11, 60, .inl nX)), (aMd, .inl (K 12, 3, .inl nD))]) (wn := [(aM, .inr (6, [.ref aMn, .ref aMt, .ref aMk, .int mU, .ref aMs, .int mB, .ref aMl, .int mI, .ref aMx, .int mH, .int mQ, .int mW, .ref aMd, .int mF, .int mR, .int mD, .int mJ, .int mA, .int mT])), (aMx, .inl (K 11, 60, .inl nX)), (aMd, .inl (K 12, 3, .inl nD))]) (va_runV (As := [.int (nX mQ.toNatClampNeg)]) (rest := []) ⟨hx, hb, hml, hown, hts⟩ (c_J0_indexOf_0f7a4 l D K aK aV (nX mQ.toNatClampNeg) v3 hv3 s.heap.size) (cwV 1 hts gX8_isCommand_J0_indexOf_0f7a4 rfl rfl rfl (by decide +kernel) ⟨(Nat.le_of_ble_eq_true rfl), (Nat.le_of_ble_eq_true rfl)⟩) (prVS hE hV hK hD hS hA) rfl rfl hl.1 rfl (lv_room (Nat.le_of_ble_eq_true rfl)) dX8_isCommand_22 ⟨(Nat.le_of_ble_eq_true rfl), (Nat.le_of_ble_eq_true rfl)⟩) hP hD hS hA [] [0, 1, 2] [0, 1, 2] rfl rfl rfl (by decide) rfl rfl (fun H locs hP hD hS => ?_)
    refine lv_if_ge (tgt := 30) hx hb dX8_isCommand_25 (by decide) (fun c4 => ?_) (fun c4 => ?_)
    · have hF := oT c4 hF
      refine lv_aload_n hx hb dX8_isCommand_30 rfl (lv_at hl 0 rfl) ?_
      refine lv_aload_n hx hb dX8_isCommand_31 rfl (lv_at hl 0 rfl) ?_
      refine va_get (D := D) (ci := 6) (v := .ref aMx) (C := RX8) (T := TX8) (N := 19) hx hb hts (fun _ h => List.mem_cons_of_mem _ (List.mem_append_left _ (List.mem_append_left _ (List.mem_append_right _ h)))) hown hK hP 0 rfl rfl 8 (by decide) (hts (.fieldLink RX8 26 "BarometerClubModel" "text" "[C") (List.mem_of_getElem? (i := 3) rfl)) (fun _ h9 => h9) rfl dX8_isCommand_32 ?_
      refine lv_aload_n hx hb dX8_isCommand_35 rfl (lv_at hl 0 rfl) ?_
      refine lv_dup hx hb dX8_isCommand_36 rfl ?_
      refine va_get (D := D) (ci := 6) (v := .int mQ) (C := RX8) (T := TX8) (N := 19) hx hb hts (fun _ h => List.mem_cons_of_mem _ (List.mem_append_left _ (List.mem_append_left _ (List.mem_append_right _ h)))) hown hK hP 0 rfl rfl 10 (by decide) (hts (.fieldLink RX8 179 "BarometerClubModel" "at" "I") (List.mem_of_getElem? (i := 1) rfl)) (fun _ h9 => h9) rfl dX8_isCommand_37 ?_
      refine lv_dup_x1 hx hb dX8_isCommand_40 rfl rfl ?_
      refine lv_iconst (v := (1 : Int32)) hx hb dX8_isCommand_41 (by decide) ?_
      refine lv_iadd hx hb dX8_isCommand_42 ?_
      refine va_put (D := D) (ci := 6) (v := .int (mQ + (1 : Int32))) (ty := .int) (C := RX8) (T := TX8) (N := 19) hx hb hts (fun _ h => List.mem_cons_of_mem _ (List.mem_append_left _ (List.mem_append_left _ (List.mem_append_right _ h)))) tyX8 tyX8_ok nmX8 hown hK hP hD hS 0 rfl rfl 10 (by decide) (hts (.fieldLink RX8 179 "BarometerClubModel" "at" "I") (List.mem_of_getElem? (i := 1) rfl)) (fun _ h9 => h9) rfl (by decide +kernel) rfl rfl (Nat.le_of_ble_eq_true rfl) dX8_isCommand_43 (fun H locs hP hD hS => ?_)
      have hP : va_P D vwC7 [(aM, .inr (6, [.ref aMn, .ref aMt, .ref aMk, .int mU, .ref aMs, .int mB, .ref aMl, .int mI, .ref aMx, .int mH, .int (mQ + (1 : Int32)), .int mW, .ref aMd, .int mF, .int mR, .int mD, .int mJ, .int mA, .int mT])), (aMx, .inl (K 11, 60, .inl nX)), (aMd, .inl (K 12, 3, .inl nD))] H := hP
      have hD : va_D A [(aM, .inr (6, [.ref aMn, .ref aMt, .ref aMk, .int mU, .ref aMs, .int mB, .ref aMl, .int mI, .ref aMx, .int mH, .int (mQ + (1 : Int32)), .int mW, .ref aMd, .int mF, .int mR, .int mD, .int mJ, .int mA, .int mT])), (aMx, .inl (K 11, 60, .inl nX)), (aMd, .inl (K 12, 3, .inl nD))] := hD
      obtain ⟨g5, hF⟩ := oG hF
      refine va_cald hx hb hK hP 1 11 rfl rfl (inB_in g5) dX8_isCommand_46 ?_
      obtain ⟨g6, hF⟩ := oG hF
      refine va_put (D := D) (ci := 6) (v := .int (nX mQ.toNatClampNeg)) (ty := .char) (C := RX8) (T := TX8) (N := 19) hx hb hts (fun _ h => List.mem_cons_of_mem _ (List.mem_append_left _ (List.mem_append_left _ (List.mem_append_right _ h)))) tyX8 tyX8_ok nmX8 hown hK hP hD hS 0 rfl rfl 11 (by decide) (hts (.fieldLink RX8 196 "BarometerClubModel" "word" "C") (List.mem_of_getElem? (i := 4) rfl)) (fun _ h9 => h9) rfl (by decide +kernel) (okN_n g6) (okN_f g6) (Nat.le_of_ble_eq_true rfl) dX8_isCommand_47 (fun H locs hP hD hS => ?_)
      have hP : va_P D vwC7 [(aM, .inr (6, [.ref aMn, .ref aMt, .ref aMk, .int mU, .ref aMs, .int mB, .ref aMl, .int mI, .ref aMx, .int mH, .int (mQ + (1 : Int32)), .int (nX mQ.toNatClampNeg), .ref aMd, .int mF, .int mR, .int mD, .int mJ, .int mA, .int mT])), (aMx, .inl (K 11, 60, .inl nX)), (aMd, .inl (K 12, 3, .inl nD))] H := hP
      have hD : va_D A [(aM, .inr (6, [.ref aMn, .ref aMt, .ref aMk, .int mU, .ref aMs, .int mB, .ref aMl, .int mI, .ref aMx, .int mH, .int (mQ + (1 : Int32)), .int (nX mQ.toNatClampNeg), .ref aMd, .int mF, .int mR, .int mD, .int mJ, .int mA, .int mT])), (aMx, .inl (K 11, 60, .inl nX)), (aMd, .inl (K 12, 3, .inl nD))] := hD
      refine lv_aload_n hx hb dX8_isCommand_50 rfl (lv_at hl 0 rfl) ?_
      refine va_get (D := D) (ci := 6) (v := .int (nX mQ.toNatClampNeg)) (C := RX8) (T := TX8) (N := 19) hx hb hts (fun _ h => List.mem_cons_of_mem _ (List.mem_append_left _ (List.mem_append_left _ (List.mem_append_right _ h)))) hown hK hP 0 rfl rfl 11 (by decide) (hts (.fieldLink RX8 196 "BarometerClubModel" "word" "C") (List.mem_of_getElem? (i := 4) rfl)) (fun _ h9 => h9) rfl dX8_isCommand_51 ?_
      by_cases c7 : (nX mQ.toNatClampNeg) = (100 : Int32)
      · have hF := oT c7 hF
        refine lv_lookup (off := 174) (tgt := 228) hx hb dX8_isCommand_54 (by decide) (by rw [c7]; rfl) (by decide) ?_
        refine lv_aload_n hx hb dX8_isCommand_228 rfl (lv_at hl 0 rfl) ?_
        obtain ⟨v8, hv8, hF⟩ := oB hF
        refine call_i (wr := []) (wn := [(aM, .inr (6, [.ref aMn, .ref aMt, .ref aMk, .int mU, .ref aMs, .int mB, .ref aMl, .int mI, .ref aMx, .int mH, .int v8.2.1, .int (nX mQ.toNatClampNeg), .ref aMd, .int mF, .int mR, .int mD, .int mJ, .int mA, .int mT])), (aMx, .inl (K 11, 60, .inl nX)), (aMd, .inl (K 12, 3, .inl v8.2.2))]) (va_runV (As := []) (rest := []) ⟨hx, hb, hml, hown, hts⟩ (c_X8_isChange l D K aM aMn aMt aMk aMs aMl aMx aMd mU mB mI mH (mQ + (1 : Int32)) (nX mQ.toNatClampNeg) mF mR mD mJ mA mT nX nD v8 hv8 H.size) (cwV 0 hts gX8_isCommand_X8_isChange rfl rfl rfl (by decide +kernel) ⟨(Nat.le_of_ble_eq_true rfl), (Nat.le_of_ble_eq_true rfl)⟩) (prV hE hK hP hD hS hA [0, 1, 2] rfl rfl 6 0 rfl rfl rfl) rfl rfl hl.1 rfl (lv_room (Nat.le_of_ble_eq_true rfl)) dX8_isCommand_229 ⟨(Nat.le_of_ble_eq_true rfl), (Nat.le_of_ble_eq_true rfl)⟩) hP hD hS hA [0, 1, 2] [] [0, 1, 2] rfl rfl rfl (by decide) rfl rfl (fun H locs hP hD hS => ?_)
        obtain ⟨g9, hF⟩ := oG hF
        exact fin_z (u := (v8.1, (v8.2.1, nX mQ.toNatClampNeg, v8.2.2))) hF (okN_n g9) hx hb hr hlocks hK hP hD hS (Nat.le_of_ble_eq_true rfl) (Nat.le_of_ble_eq_true rfl) dX8_isCommand_232
      have hF := oF c7 hF
      by_cases c10 : (nX mQ.toNatClampNeg) = (109 : Int32)
      · have hF := oT c10 hF
        refine lv_lookup (off := 50) (tgt := 104) hx hb dX8_isCommand_54 (by decide) (by rw [c10]; rfl) (by decide) ?_
        refine lv_aload_n hx hb dX8_isCommand_104 rfl (lv_at hl 0 rfl) ?_
        refine lv_iconst (v := (0 : Int32)) hx hb dX8_isCommand_105 (by decide) ?_
        refine lv_iconst (v := (1 : Int32)) hx hb dX8_isCommand_106 (by decide) ?_
        refine lv_iconst (v := (1 : Int32)) hx hb dX8_isCommand_107 (by decide) ?_
        obtain ⟨v11, hv11, hF⟩ := oB hF
        refine call_i (wr := []) (wn := [(aM, .inr (6, [.ref aMn, .ref aMt, .ref aMk, .int mU, .ref aMs, .int mB, .ref aMl, .int mI, .ref aMx, .int mH, .int v11.2.1, .int (nX mQ.toNatClampNeg), .ref aMd, .int mF, .int mR, .int mD, .int mJ, .int mA, .int mT])), (aMx, .inl (K 11, 60, .inl nX)), (aMd, .inl (K 12, 3, .inl v11.2.2))]) (va_runV (As := [.int (0 : Int32), .int (1 : Int32), .int (1 : Int32)]) (rest := []) ⟨hx, hb, hml, hown, hts⟩ (c_X8_digits l D K aM aMn aMt aMk aMs aMl aMx aMd mU mB mI mH (mQ + (1 : Int32)) (nX mQ.toNatClampNeg) mF mR mD mJ mA mT nX nD (0 : Int32) (1 : Int32) (1 : Int32) v11 hv11 H.size) (cwV 3 hts gX8_isCommand_X8_digits rfl rfl rfl (by decide +kernel) ⟨(Nat.le_of_ble_eq_true rfl), (Nat.le_of_ble_eq_true rfl)⟩) (prV hE hK hP hD hS hA [0, 1, 2] rfl rfl 6 0 rfl rfl rfl) rfl rfl hl.1 rfl (lv_room (Nat.le_of_ble_eq_true rfl)) dX8_isCommand_108 ⟨(Nat.le_of_ble_eq_true rfl), (Nat.le_of_ble_eq_true rfl)⟩) hP hD hS hA [0, 1, 2] [] [0, 1, 2] rfl rfl rfl (by decide) rfl rfl (fun H locs hP hD hS => ?_)
        refine lv_if_eq (tgt := 137) hx hb dX8_isCommand_111 (by decide) (fun c12 => ?_) (fun c12 => ?_)
        · have hF := oT c12 hF
          refine lv_iconst (v := (0 : Int32)) hx hb dX8_isCommand_137 (by decide) ?_
          exact fin_z (u := ((0 : Int32), (v11.2.1, nX mQ.toNatClampNeg, v11.2.2))) hF (okN_n (ty := .boolean) (x := (0 : Int32)) (by decide)) hx hb hr hlocks hK hP hD hS (Nat.le_of_ble_eq_true rfl) (Nat.le_of_ble_eq_true rfl) dX8_isCommand_138
        · have hF := oF c12 hF
          refine lv_aload_n hx hb dX8_isCommand_114 rfl (lv_at hl 0 rfl) ?_
          refine lv_bipush (v := (62 : Int32)) hx hb dX8_isCommand_115 (by decide) ?_
          obtain ⟨v13, hv13, hF⟩ := oB hF
          refine call_i (wr := [(aMd, .inl (K 12, 3, .inl v11.2.2))]) (wn := [(aM, .inr (6, [.ref aMn, .ref aMt, .ref aMk, .int mU, .ref aMs, .int mB, .ref aMl, .int mI, .ref aMx, .int mH, .int v13.2, .int (nX mQ.toNatClampNeg), .ref aMd, .int mF, .int mR, .int mD, .int mJ, .int mA, .int mT])), (aMx, .inl (K 11, 60, .inl nX)), (aMd, .inl (K 12, 3, .inl v11.2.2))]) (va_runV (As := [.int (62 : Int32)]) (rest := []) ⟨hx, hb, hml, hown, hts⟩ (c_X8_takes l D K aM aMn aMt aMk aMs aMl aMx aMd mU mB mI mH v11.2.1 (nX mQ.toNatClampNeg) mF mR mD mJ mA mT nX (62 : Int32) v13 hv13 H.size) (cwV 1 hts gX8_isCommand_X8_takes rfl rfl rfl (by decide +kernel) ⟨(Nat.le_of_ble_eq_true rfl), (Nat.le_of_ble_eq_true rfl)⟩) (prV hE hK hP hD hS hA [0, 1] rfl rfl 6 0 rfl rfl rfl) rfl rfl hl.1 rfl (lv_room (Nat.le_of_ble_eq_true rfl)) dX8_isCommand_117 ⟨(Nat.le_of_ble_eq_true rfl), (Nat.le_of_ble_eq_true rfl)⟩) hP hD hS hA [0, 1] [2] [1, 2, 0] rfl rfl rfl (by decide) rfl rfl (fun H locs hP hD hS => ?_)
          refine lv_if_eq (tgt := 137) hx hb dX8_isCommand_120 (by decide) (fun c14 => ?_) (fun c14 => ?_)
          · have hF := oT c14 hF
            refine lv_iconst (v := (0 : Int32)) hx hb dX8_isCommand_137 (by decide) ?_
            exact fin_z (u := ((0 : Int32), (v13.2, nX mQ.toNatClampNeg, v11.2.2))) hF (okN_n (ty := .boolean) (x := (0 : Int32)) (by decide)) hx hb hr hlocks hK hP hD hS (Nat.le_of_ble_eq_true rfl) (Nat.le_of_ble_eq_true rfl) dX8_isCommand_138
          · have hF := oF c14 hF
            refine lv_aload_n hx hb dX8_isCommand_123 rfl (lv_at hl 0 rfl) ?_
            refine lv_iconst (v := (1 : Int32)) hx hb dX8_isCommand_124 (by decide) ?_
            refine lv_iconst (v := (1 : Int32)) hx hb dX8_isCommand_125 (by decide) ?_
            refine lv_iconst (v := (1 : Int32)) hx hb dX8_isCommand_126 (by decide) ?_
            obtain ⟨v15, hv15, hF⟩ := oB hF
            refine call_i (wr := []) (wn := [(aM, .inr (6, [.ref aMn, .ref aMt, .ref aMk, .int mU, .ref aMs, .int mB, .ref aMl, .int mI, .ref aMx, .int mH, .int v15.2.1, .int (nX mQ.toNatClampNeg), .ref aMd, .int mF, .int mR, .int mD, .int mJ, .int mA, .int mT])), (aMx, .inl (K 11, 60, .inl nX)), (aMd, .inl (K 12, 3, .inl v15.2.2))]) (va_runV (As := [.int (1 : Int32), .int (1 : Int32), .int (1 : Int32)]) (rest := []) ⟨hx, hb, hml, hown, hts⟩ (c_X8_digits l D K aM aMn aMt aMk aMs aMl aMx aMd mU mB mI mH v13.2 (nX mQ.toNatClampNeg) mF mR mD mJ mA mT nX v11.2.2 (1 : Int32) (1 : Int32) (1 : Int32) v15 hv15 H.size) (cwV 3 hts gX8_isCommand_X8_digits rfl rfl rfl (by decide +kernel) ⟨(Nat.le_of_ble_eq_true rfl), (Nat.le_of_ble_eq_true rfl)⟩) (prV hE hK hP hD hS hA [0, 1, 2] rfl rfl 6 0 rfl rfl rfl) rfl rfl hl.1 rfl (lv_room (Nat.le_of_ble_eq_true rfl)) dX8_isCommand_127 ⟨(Nat.le_of_ble_eq_true rfl), (Nat.le_of_ble_eq_true rfl)⟩) hP hD hS hA [0, 1, 2] [] [0, 1, 2] rfl rfl rfl (by decide) rfl rfl (fun H locs hP hD hS => ?_)
            refine lv_if_eq (tgt := 137) hx hb dX8_isCommand_130 (by decide) (fun c16 => ?_) (fun c16 => ?_)
            · have hF := oT c16 hF
              refine lv_iconst (v := (0 : Int32)) hx hb dX8_isCommand_137 (by decide) ?_
              exact fin_z (u := ((0 : Int32), (v15.2.1, nX mQ.toNatClampNeg, v15.2.2))) hF (okN_n (ty := .boolean) (x := (0 : Int32)) (by decide)) hx hb hr hlocks hK hP hD hS (Nat.le_of_ble_eq_true rfl) (Nat.le_of_ble_eq_true rfl) dX8_isCommand_138
            · have hF := oF c16 hF
              refine lv_iconst (v := (1 : Int32)) hx hb dX8_isCommand_133 (by decide) ?_
              refine lv_goto (tgt := 138) hx hb dX8_isCommand_134 (by decide) ?_
              exact fin_z (u := ((1 : Int32), (v15.2.1, nX mQ.toNatClampNeg, v15.2.2))) hF (okN_n (ty := .boolean) (x := (1 : Int32)) (by decide)) hx hb hr hlocks hK hP hD hS (Nat.le_of_ble_eq_true rfl) (Nat.le_of_ble_eq_true rfl) dX8_isCommand_138
      have hF := oF c10 hF
      by_cases c17 : (nX mQ.toNatClampNeg) = (114 : Int32)
      · have hF := oT c17 hF
        refine lv_lookup (off := 179) (tgt := 233) hx hb dX8_isCommand_54 (by decide) (by rw [c17]; rfl) (by decide) ?_
        refine lv_iconst (v := (1 : Int32)) hx hb dX8_isCommand_233 (by decide) ?_
        exact fin_z (u := ((1 : Int32), (mQ + (1 : Int32), nX mQ.toNatClampNeg, nD))) hF (okN_n (ty := .boolean) (x := (1 : Int32)) (by decide)) hx hb hr hlocks hK hP hD hS (Nat.le_of_ble_eq_true rfl) (Nat.le_of_ble_eq_true rfl) dX8_isCommand_234
      have hF := oF c17 hF
      by_cases c18 : (nX mQ.toNatClampNeg) = (115 : Int32)
      · have hF := oT c18 hF
        refine lv_lookup (off := 85) (tgt := 139) hx hb dX8_isCommand_54 (by decide) (by rw [c18]; rfl) (by decide) ?_
        refine lv_aload_n hx hb dX8_isCommand_139 rfl (lv_at hl 0 rfl) ?_
        refine lv_iconst (v := (0 : Int32)) hx hb dX8_isCommand_140 (by decide) ?_
        refine lv_iconst (v := (1 : Int32)) hx hb dX8_isCommand_141 (by decide) ?_
        refine lv_iconst (v := (1 : Int32)) hx hb dX8_isCommand_142 (by decide) ?_
        obtain ⟨v19, hv19, hF⟩ := oB hF
        refine call_i (wr := []) (wn := [(aM, .inr (6, [.ref aMn, .ref aMt, .ref aMk, .int mU, .ref aMs, .int mB, .ref aMl, .int mI, .ref aMx, .int mH, .int v19.2.1, .int (nX mQ.toNatClampNeg), .ref aMd, .int mF, .int mR, .int mD, .int mJ, .int mA, .int mT])), (aMx, .inl (K 11, 60, .inl nX)), (aMd, .inl (K 12, 3, .inl v19.2.2))]) (va_runV (As := [.int (0 : Int32), .int (1 : Int32), .int (1 : Int32)]) (rest := []) ⟨hx, hb, hml, hown, hts⟩ (c_X8_digits l D K aM aMn aMt aMk aMs aMl aMx aMd mU mB mI mH (mQ + (1 : Int32)) (nX mQ.toNatClampNeg) mF mR mD mJ mA mT nX nD (0 : Int32) (1 : Int32) (1 : Int32) v19 hv19 H.size) (cwV 3 hts gX8_isCommand_X8_digits rfl rfl rfl (by decide +kernel) ⟨(Nat.le_of_ble_eq_true rfl), (Nat.le_of_ble_eq_true rfl)⟩) (prV hE hK hP hD hS hA [0, 1, 2] rfl rfl 6 0 rfl rfl rfl) rfl rfl hl.1 rfl (lv_room (Nat.le_of_ble_eq_true rfl)) dX8_isCommand_143 ⟨(Nat.le_of_ble_eq_true rfl), (Nat.le_of_ble_eq_true rfl)⟩) hP hD hS hA [0, 1, 2] [] [0, 1, 2] rfl rfl rfl (by decide) rfl rfl (fun H locs hP hD hS => ?_)
        refine lv_if_eq (tgt := 172) hx hb dX8_isCommand_146 (by decide) (fun c20 => ?_) (fun c20 => ?_)
        · have hF := oT c20 hF
          refine lv_iconst (v := (0 : Int32)) hx hb dX8_isCommand_172 (by decide) ?_
          exact fin_z (u := ((0 : Int32), (v19.2.1, nX mQ.toNatClampNeg, v19.2.2))) hF (okN_n (ty := .boolean) (x := (0 : Int32)) (by decide)) hx hb hr hlocks hK hP hD hS (Nat.le_of_ble_eq_true rfl) (Nat.le_of_ble_eq_true rfl) dX8_isCommand_173
        · have hF := oF c20 hF
          refine lv_aload_n hx hb dX8_isCommand_149 rfl (lv_at hl 0 rfl) ?_
          refine lv_bipush (v := (38 : Int32)) hx hb dX8_isCommand_150 (by decide) ?_
          obtain ⟨v21, hv21, hF⟩ := oB hF
          refine call_i (wr := [(aMd, .inl (K 12, 3, .inl v19.2.2))]) (wn := [(aM, .inr (6, [.ref aMn, .ref aMt, .ref aMk, .int mU, .ref aMs, .int mB, .ref aMl, .int mI, .ref aMx, .int mH, .int v21.2, .int (nX mQ.toNatClampNeg), .ref aMd, .int mF, .int mR, .int mD, .int mJ, .int mA, .int mT])), (aMx, .inl (K 11, 60, .inl nX)), (aMd, .inl (K 12, 3, .inl v19.2.2))]) (va_runV (As := [.int (38 : Int32)]) (rest := []) ⟨hx, hb, hml, hown, hts⟩ (c_X8_takes l D K aM aMn aMt aMk aMs aMl aMx aMd mU mB mI mH v19.2.1 (nX mQ.toNatClampNeg) mF mR mD mJ mA mT nX (38 : Int32) v21 hv21 H.size) (cwV 1 hts gX8_isCommand_X8_takes rfl rfl rfl (by decide +kernel) ⟨(Nat.le_of_ble_eq_true rfl), (Nat.le_of_ble_eq_true rfl)⟩) (prV hE hK hP hD hS hA [0, 1] rfl rfl 6 0 rfl rfl rfl) rfl rfl hl.1 rfl (lv_room (Nat.le_of_ble_eq_true rfl)) dX8_isCommand_152 ⟨(Nat.le_of_ble_eq_true rfl), (Nat.le_of_ble_eq_true rfl)⟩) hP hD hS hA [0, 1] [2] [1, 2, 0] rfl rfl rfl (by decide) rfl rfl (fun H locs hP hD hS => ?_)
          refine lv_if_eq (tgt := 172) hx hb dX8_isCommand_155 (by decide) (fun c22 => ?_) (fun c22 => ?_)
          · have hF := oT c22 hF
            refine lv_iconst (v := (0 : Int32)) hx hb dX8_isCommand_172 (by decide) ?_
            exact fin_z (u := ((0 : Int32), (v21.2, nX mQ.toNatClampNeg, v19.2.2))) hF (okN_n (ty := .boolean) (x := (0 : Int32)) (by decide)) hx hb hr hlocks hK hP hD hS (Nat.le_of_ble_eq_true rfl) (Nat.le_of_ble_eq_true rfl) dX8_isCommand_173
          · have hF := oF c22 hF
            refine lv_aload_n hx hb dX8_isCommand_158 rfl (lv_at hl 0 rfl) ?_
            refine lv_iconst (v := (1 : Int32)) hx hb dX8_isCommand_159 (by decide) ?_
            refine lv_iconst (v := (1 : Int32)) hx hb dX8_isCommand_160 (by decide) ?_
            refine lv_iconst (v := (1 : Int32)) hx hb dX8_isCommand_161 (by decide) ?_
            obtain ⟨v23, hv23, hF⟩ := oB hF
            refine call_i (wr := []) (wn := [(aM, .inr (6, [.ref aMn, .ref aMt, .ref aMk, .int mU, .ref aMs, .int mB, .ref aMl, .int mI, .ref aMx, .int mH, .int v23.2.1, .int (nX mQ.toNatClampNeg), .ref aMd, .int mF, .int mR, .int mD, .int mJ, .int mA, .int mT])), (aMx, .inl (K 11, 60, .inl nX)), (aMd, .inl (K 12, 3, .inl v23.2.2))]) (va_runV (As := [.int (1 : Int32), .int (1 : Int32), .int (1 : Int32)]) (rest := []) ⟨hx, hb, hml, hown, hts⟩ (c_X8_digits l D K aM aMn aMt aMk aMs aMl aMx aMd mU mB mI mH v21.2 (nX mQ.toNatClampNeg) mF mR mD mJ mA mT nX v19.2.2 (1 : Int32) (1 : Int32) (1 : Int32) v23 hv23 H.size) (cwV 3 hts gX8_isCommand_X8_digits rfl rfl rfl (by decide +kernel) ⟨(Nat.le_of_ble_eq_true rfl), (Nat.le_of_ble_eq_true rfl)⟩) (prV hE hK hP hD hS hA [0, 1, 2] rfl rfl 6 0 rfl rfl rfl) rfl rfl hl.1 rfl (lv_room (Nat.le_of_ble_eq_true rfl)) dX8_isCommand_162 ⟨(Nat.le_of_ble_eq_true rfl), (Nat.le_of_ble_eq_true rfl)⟩) hP hD hS hA [0, 1, 2] [] [0, 1, 2] rfl rfl rfl (by decide) rfl rfl (fun H locs hP hD hS => ?_)
            refine lv_if_eq (tgt := 172) hx hb dX8_isCommand_165 (by decide) (fun c24 => ?_) (fun c24 => ?_)
            · have hF := oT c24 hF
              refine lv_iconst (v := (0 : Int32)) hx hb dX8_isCommand_172 (by decide) ?_
              exact fin_z (u := ((0 : Int32), (v23.2.1, nX mQ.toNatClampNeg, v23.2.2))) hF (okN_n (ty := .boolean) (x := (0 : Int32)) (by decide)) hx hb hr hlocks hK hP hD hS (Nat.le_of_ble_eq_true rfl) (Nat.le_of_ble_eq_true rfl) dX8_isCommand_173
            · have hF := oF c24 hF
              refine lv_iconst (v := (1 : Int32)) hx hb dX8_isCommand_168 (by decide) ?_
              refine lv_goto (tgt := 173) hx hb dX8_isCommand_169 (by decide) ?_
              exact fin_z (u := ((1 : Int32), (v23.2.1, nX mQ.toNatClampNeg, v23.2.2))) hF (okN_n (ty := .boolean) (x := (1 : Int32)) (by decide)) hx hb hr hlocks hK hP hD hS (Nat.le_of_ble_eq_true rfl) (Nat.le_of_ble_eq_true rfl) dX8_isCommand_173
      have hF := oF c18 hF
      by_cases c25 : (nX mQ.toNatClampNeg) = (119 : Int32)
      · have hF := oT c25 hF
        refine lv_lookup (off := 120) (tgt := 174) hx hb dX8_isCommand_54 (by decide) (by rw [c25]; rfl) (by decide) ?_
        refine lv_aload_n hx hb dX8_isCommand_174 rfl (lv_at hl 0 rfl) ?_
        refine lv_iconst (v := (0 : Int32)) hx hb dX8_isCommand_175 (by decide) ?_
        refine lv_iconst (v := (1 : Int32)) hx hb dX8_isCommand_176 (by decide) ?_
        refine lv_iconst (v := (1 : Int32)) hx hb dX8_isCommand_177 (by decide) ?_
        obtain ⟨v26, hv26, hF⟩ := oB hF
        refine call_i (wr := []) (wn := [(aM, .inr (6, [.ref aMn, .ref aMt, .ref aMk, .int mU, .ref aMs, .int mB, .ref aMl, .int mI, .ref aMx, .int mH, .int v26.2.1, .int (nX mQ.toNatClampNeg), .ref aMd, .int mF, .int mR, .int mD, .int mJ, .int mA, .int mT])), (aMx, .inl (K 11, 60, .inl nX)), (aMd, .inl (K 12, 3, .inl v26.2.2))]) (va_runV (As := [.int (0 : Int32), .int (1 : Int32), .int (1 : Int32)]) (rest := []) ⟨hx, hb, hml, hown, hts⟩ (c_X8_digits l D K aM aMn aMt aMk aMs aMl aMx aMd mU mB mI mH (mQ + (1 : Int32)) (nX mQ.toNatClampNeg) mF mR mD mJ mA mT nX nD (0 : Int32) (1 : Int32) (1 : Int32) v26 hv26 H.size) (cwV 3 hts gX8_isCommand_X8_digits rfl rfl rfl (by decide +kernel) ⟨(Nat.le_of_ble_eq_true rfl), (Nat.le_of_ble_eq_true rfl)⟩) (prV hE hK hP hD hS hA [0, 1, 2] rfl rfl 6 0 rfl rfl rfl) rfl rfl hl.1 rfl (lv_room (Nat.le_of_ble_eq_true rfl)) dX8_isCommand_178 ⟨(Nat.le_of_ble_eq_true rfl), (Nat.le_of_ble_eq_true rfl)⟩) hP hD hS hA [0, 1, 2] [] [0, 1, 2] rfl rfl rfl (by decide) rfl rfl (fun H locs hP hD hS => ?_)
        refine lv_if_eq (tgt := 226) hx hb dX8_isCommand_181 (by decide) (fun c27 => ?_) (fun c27 => ?_)
        · have hF := oT c27 hF
          refine lv_iconst (v := (0 : Int32)) hx hb dX8_isCommand_226 (by decide) ?_
          exact fin_z (u := ((0 : Int32), (v26.2.1, nX mQ.toNatClampNeg, v26.2.2))) hF (okN_n (ty := .boolean) (x := (0 : Int32)) (by decide)) hx hb hr hlocks hK hP hD hS (Nat.le_of_ble_eq_true rfl) (Nat.le_of_ble_eq_true rfl) dX8_isCommand_227
        · have hF := oF c27 hF
          refine lv_aload_n hx hb dX8_isCommand_184 rfl (lv_at hl 0 rfl) ?_
          refine lv_bipush (v := (61 : Int32)) hx hb dX8_isCommand_185 (by decide) ?_
          obtain ⟨v28, hv28, hF⟩ := oB hF
          refine call_i (wr := [(aMd, .inl (K 12, 3, .inl v26.2.2))]) (wn := [(aM, .inr (6, [.ref aMn, .ref aMt, .ref aMk, .int mU, .ref aMs, .int mB, .ref aMl, .int mI, .ref aMx, .int mH, .int v28.2, .int (nX mQ.toNatClampNeg), .ref aMd, .int mF, .int mR, .int mD, .int mJ, .int mA, .int mT])), (aMx, .inl (K 11, 60, .inl nX)), (aMd, .inl (K 12, 3, .inl v26.2.2))]) (va_runV (As := [.int (61 : Int32)]) (rest := []) ⟨hx, hb, hml, hown, hts⟩ (c_X8_takes l D K aM aMn aMt aMk aMs aMl aMx aMd mU mB mI mH v26.2.1 (nX mQ.toNatClampNeg) mF mR mD mJ mA mT nX (61 : Int32) v28 hv28 H.size) (cwV 1 hts gX8_isCommand_X8_takes rfl rfl rfl (by decide +kernel) ⟨(Nat.le_of_ble_eq_true rfl), (Nat.le_of_ble_eq_true rfl)⟩) (prV hE hK hP hD hS hA [0, 1] rfl rfl 6 0 rfl rfl rfl) rfl rfl hl.1 rfl (lv_room (Nat.le_of_ble_eq_true rfl)) dX8_isCommand_187 ⟨(Nat.le_of_ble_eq_true rfl), (Nat.le_of_ble_eq_true rfl)⟩) hP hD hS hA [0, 1] [2] [1, 2, 0] rfl rfl rfl (by decide) rfl rfl (fun H locs hP hD hS => ?_)
          refine lv_if_eq (tgt := 226) hx hb dX8_isCommand_190 (by decide) (fun c29 => ?_) (fun c29 => ?_)
          · have hF := oT c29 hF
            refine lv_iconst (v := (0 : Int32)) hx hb dX8_isCommand_226 (by decide) ?_
            exact fin_z (u := ((0 : Int32), (v28.2, nX mQ.toNatClampNeg, v26.2.2))) hF (okN_n (ty := .boolean) (x := (0 : Int32)) (by decide)) hx hb hr hlocks hK hP hD hS (Nat.le_of_ble_eq_true rfl) (Nat.le_of_ble_eq_true rfl) dX8_isCommand_227
          · have hF := oF c29 hF
            refine lv_aload_n hx hb dX8_isCommand_193 rfl (lv_at hl 0 rfl) ?_
            refine lv_iconst (v := (1 : Int32)) hx hb dX8_isCommand_194 (by decide) ?_
            refine lv_iconst (v := (3 : Int32)) hx hb dX8_isCommand_195 (by decide) ?_
            refine lv_iconst (v := (4 : Int32)) hx hb dX8_isCommand_196 (by decide) ?_
            obtain ⟨v30, hv30, hF⟩ := oB hF
            refine call_i (wr := []) (wn := [(aM, .inr (6, [.ref aMn, .ref aMt, .ref aMk, .int mU, .ref aMs, .int mB, .ref aMl, .int mI, .ref aMx, .int mH, .int v30.2.1, .int (nX mQ.toNatClampNeg), .ref aMd, .int mF, .int mR, .int mD, .int mJ, .int mA, .int mT])), (aMx, .inl (K 11, 60, .inl nX)), (aMd, .inl (K 12, 3, .inl v30.2.2))]) (va_runV (As := [.int (1 : Int32), .int (3 : Int32), .int (4 : Int32)]) (rest := []) ⟨hx, hb, hml, hown, hts⟩ (c_X8_digits l D K aM aMn aMt aMk aMs aMl aMx aMd mU mB mI mH v28.2 (nX mQ.toNatClampNeg) mF mR mD mJ mA mT nX v26.2.2 (1 : Int32) (3 : Int32) (4 : Int32) v30 hv30 H.size) (cwV 3 hts gX8_isCommand_X8_digits rfl rfl rfl (by decide +kernel) ⟨(Nat.le_of_ble_eq_true rfl), (Nat.le_of_ble_eq_true rfl)⟩) (prV hE hK hP hD hS hA [0, 1, 2] rfl rfl 6 0 rfl rfl rfl) rfl rfl hl.1 rfl (lv_room (Nat.le_of_ble_eq_true rfl)) dX8_isCommand_197 ⟨(Nat.le_of_ble_eq_true rfl), (Nat.le_of_ble_eq_true rfl)⟩) hP hD hS hA [0, 1, 2] [] [0, 1, 2] rfl rfl rfl (by decide) rfl rfl (fun H locs hP hD hS => ?_)
            refine lv_if_eq (tgt := 226) hx hb dX8_isCommand_200 (by decide) (fun c31 => ?_) (fun c31 => ?_)
            · have hF := oT c31 hF
              refine lv_iconst (v := (0 : Int32)) hx hb dX8_isCommand_226 (by decide) ?_
              exact fin_z (u := ((0 : Int32), (v30.2.1, nX mQ.toNatClampNeg, v30.2.2))) hF (okN_n (ty := .boolean) (x := (0 : Int32)) (by decide)) hx hb hr hlocks hK hP hD hS (Nat.le_of_ble_eq_true rfl) (Nat.le_of_ble_eq_true rfl) dX8_isCommand_227
            · have hF := oF c31 hF
              refine lv_aload_n hx hb dX8_isCommand_203 rfl (lv_at hl 0 rfl) ?_
              refine lv_bipush (v := (47 : Int32)) hx hb dX8_isCommand_204 (by decide) ?_
              obtain ⟨v32, hv32, hF⟩ := oB hF
              refine call_i (wr := [(aMd, .inl (K 12, 3, .inl v30.2.2))]) (wn := [(aM, .inr (6, [.ref aMn, .ref aMt, .ref aMk, .int mU, .ref aMs, .int mB, .ref aMl, .int mI, .ref aMx, .int mH, .int v32.2, .int (nX mQ.toNatClampNeg), .ref aMd, .int mF, .int mR, .int mD, .int mJ, .int mA, .int mT])), (aMx, .inl (K 11, 60, .inl nX)), (aMd, .inl (K 12, 3, .inl v30.2.2))]) (va_runV (As := [.int (47 : Int32)]) (rest := []) ⟨hx, hb, hml, hown, hts⟩ (c_X8_takes l D K aM aMn aMt aMk aMs aMl aMx aMd mU mB mI mH v30.2.1 (nX mQ.toNatClampNeg) mF mR mD mJ mA mT nX (47 : Int32) v32 hv32 H.size) (cwV 1 hts gX8_isCommand_X8_takes rfl rfl rfl (by decide +kernel) ⟨(Nat.le_of_ble_eq_true rfl), (Nat.le_of_ble_eq_true rfl)⟩) (prV hE hK hP hD hS hA [0, 1] rfl rfl 6 0 rfl rfl rfl) rfl rfl hl.1 rfl (lv_room (Nat.le_of_ble_eq_true rfl)) dX8_isCommand_206 ⟨(Nat.le_of_ble_eq_true rfl), (Nat.le_of_ble_eq_true rfl)⟩) hP hD hS hA [0, 1] [2] [1, 2, 0] rfl rfl rfl (by decide) rfl rfl (fun H locs hP hD hS => ?_)
              refine lv_if_eq (tgt := 226) hx hb dX8_isCommand_209 (by decide) (fun c33 => ?_) (fun c33 => ?_)
              · have hF := oT c33 hF
                refine lv_iconst (v := (0 : Int32)) hx hb dX8_isCommand_226 (by decide) ?_
                exact fin_z (u := ((0 : Int32), (v32.2, nX mQ.toNatClampNeg, v30.2.2))) hF (okN_n (ty := .boolean) (x := (0 : Int32)) (by decide)) hx hb hr hlocks hK hP hD hS (Nat.le_of_ble_eq_true rfl) (Nat.le_of_ble_eq_true rfl) dX8_isCommand_227
              · have hF := oF c33 hF
                refine lv_aload_n hx hb dX8_isCommand_212 rfl (lv_at hl 0 rfl) ?_
                refine lv_iconst (v := (2 : Int32)) hx hb dX8_isCommand_213 (by decide) ?_
                refine lv_iconst (v := (1 : Int32)) hx hb dX8_isCommand_214 (by decide) ?_
                refine lv_iconst (v := (1 : Int32)) hx hb dX8_isCommand_215 (by decide) ?_
                obtain ⟨v34, hv34, hF⟩ := oB hF
                refine call_i (wr := []) (wn := [(aM, .inr (6, [.ref aMn, .ref aMt, .ref aMk, .int mU, .ref aMs, .int mB, .ref aMl, .int mI, .ref aMx, .int mH, .int v34.2.1, .int (nX mQ.toNatClampNeg), .ref aMd, .int mF, .int mR, .int mD, .int mJ, .int mA, .int mT])), (aMx, .inl (K 11, 60, .inl nX)), (aMd, .inl (K 12, 3, .inl v34.2.2))]) (va_runV (As := [.int (2 : Int32), .int (1 : Int32), .int (1 : Int32)]) (rest := []) ⟨hx, hb, hml, hown, hts⟩ (c_X8_digits l D K aM aMn aMt aMk aMs aMl aMx aMd mU mB mI mH v32.2 (nX mQ.toNatClampNeg) mF mR mD mJ mA mT nX v30.2.2 (2 : Int32) (1 : Int32) (1 : Int32) v34 hv34 H.size) (cwV 3 hts gX8_isCommand_X8_digits rfl rfl rfl (by decide +kernel) ⟨(Nat.le_of_ble_eq_true rfl), (Nat.le_of_ble_eq_true rfl)⟩) (prV hE hK hP hD hS hA [0, 1, 2] rfl rfl 6 0 rfl rfl rfl) rfl rfl hl.1 rfl (lv_room (Nat.le_of_ble_eq_true rfl)) dX8_isCommand_216 ⟨(Nat.le_of_ble_eq_true rfl), (Nat.le_of_ble_eq_true rfl)⟩) hP hD hS hA [0, 1, 2] [] [0, 1, 2] rfl rfl rfl (by decide) rfl rfl (fun H locs hP hD hS => ?_)
                refine lv_if_eq (tgt := 226) hx hb dX8_isCommand_219 (by decide) (fun c35 => ?_) (fun c35 => ?_)
                · have hF := oT c35 hF
                  refine lv_iconst (v := (0 : Int32)) hx hb dX8_isCommand_226 (by decide) ?_
                  exact fin_z (u := ((0 : Int32), (v34.2.1, nX mQ.toNatClampNeg, v34.2.2))) hF (okN_n (ty := .boolean) (x := (0 : Int32)) (by decide)) hx hb hr hlocks hK hP hD hS (Nat.le_of_ble_eq_true rfl) (Nat.le_of_ble_eq_true rfl) dX8_isCommand_227
                · have hF := oF c35 hF
                  refine lv_iconst (v := (1 : Int32)) hx hb dX8_isCommand_222 (by decide) ?_
                  refine lv_goto (tgt := 227) hx hb dX8_isCommand_223 (by decide) ?_
                  exact fin_z (u := ((1 : Int32), (v34.2.1, nX mQ.toNatClampNeg, v34.2.2))) hF (okN_n (ty := .boolean) (x := (1 : Int32)) (by decide)) hx hb hr hlocks hK hP hD hS (Nat.le_of_ble_eq_true rfl) (Nat.le_of_ble_eq_true rfl) dX8_isCommand_227
      have hF := oF c25 hF
      refine lv_lookup (off := 181) (tgt := 235) hx hb dX8_isCommand_54 (by decide) ((lv_osw c7 rfl).trans ((lv_osw c10 rfl).trans ((lv_osw c17 rfl).trans ((lv_osw c18 rfl).trans ((lv_osw c25 rfl).trans rfl))))) (by decide) ?_
      refine lv_aload_n hx hb dX8_isCommand_235 rfl (lv_at hl 0 rfl) ?_
      refine lv_iconst (v := (0 : Int32)) hx hb dX8_isCommand_236 (by decide) ?_
      refine lv_iconst (v := (1 : Int32)) hx hb dX8_isCommand_237 (by decide) ?_
      refine lv_iconst (v := (1 : Int32)) hx hb dX8_isCommand_238 (by decide) ?_
      obtain ⟨v36, hv36, hF⟩ := oB hF
      refine call_i (wr := []) (wn := [(aM, .inr (6, [.ref aMn, .ref aMt, .ref aMk, .int mU, .ref aMs, .int mB, .ref aMl, .int mI, .ref aMx, .int mH, .int v36.2.1, .int (nX mQ.toNatClampNeg), .ref aMd, .int mF, .int mR, .int mD, .int mJ, .int mA, .int mT])), (aMx, .inl (K 11, 60, .inl nX)), (aMd, .inl (K 12, 3, .inl v36.2.2))]) (va_runV (As := [.int (0 : Int32), .int (1 : Int32), .int (1 : Int32)]) (rest := []) ⟨hx, hb, hml, hown, hts⟩ (c_X8_digits l D K aM aMn aMt aMk aMs aMl aMx aMd mU mB mI mH (mQ + (1 : Int32)) (nX mQ.toNatClampNeg) mF mR mD mJ mA mT nX nD (0 : Int32) (1 : Int32) (1 : Int32) v36 hv36 H.size) (cwV 3 hts gX8_isCommand_X8_digits rfl rfl rfl (by decide +kernel) ⟨(Nat.le_of_ble_eq_true rfl), (Nat.le_of_ble_eq_true rfl)⟩) (prV hE hK hP hD hS hA [0, 1, 2] rfl rfl 6 0 rfl rfl rfl) rfl rfl hl.1 rfl (lv_room (Nat.le_of_ble_eq_true rfl)) dX8_isCommand_239 ⟨(Nat.le_of_ble_eq_true rfl), (Nat.le_of_ble_eq_true rfl)⟩) hP hD hS hA [0, 1, 2] [] [0, 1, 2] rfl rfl rfl (by decide) rfl rfl (fun H locs hP hD hS => ?_)
      obtain ⟨g37, hF⟩ := oG hF
      exact fin_z (u := (v36.1, (v36.2.1, nX mQ.toNatClampNeg, v36.2.2))) hF (okN_n g37) hx hb hr hlocks hK hP hD hS (Nat.le_of_ble_eq_true rfl) (Nat.le_of_ble_eq_true rfl) dX8_isCommand_242
    · have hF := oF c4 hF
      refine lv_iconst (v := (0 : Int32)) hx hb dX8_isCommand_28 (by decide) ?_
      exact fin_z (u := ((0 : Int32), (mQ, mW, nD))) hF (okN_n (ty := .boolean) (x := (0 : Int32)) (by decide)) hx hb hr hlocks hK hP hD hS (Nat.le_of_ble_eq_true rfl) (Nat.le_of_ble_eq_true rfl) dX8_isCommand_29
abbrev RM_X8_carries : Room := { frames := 4, cells := 0, slots := 0, locals := 93 }
abbrev MC_X8_carries : Nat := 0
abbrev MS_X8_carries : Nat := 0
abbrev wf_X8_carries (K : Nat → ClassId) (aM : Nat) (aMn : Nat) (aMt : Nat) (aMk : Nat) (aMs : Nat) (aMl : Nat) (aMx : Nat) (aMd : Nat) (mU : Int32) (mB : Int32) (mI : Int32) (mH : Int32) (mQ : Int32) (mW : Int32) (mF : Int32) (mT : Int32) (nD : Nat → Int32) (v : Int32 × Int32 × Int32 × Int32 × Int32 × (Nat → Int32)) : va_W := [(aM, .inr (6, [.ref aMn, .ref aMt, .ref aMk, .int mU, .ref aMs, .int mB, .ref aMl, .int mI, .ref aMx, .int mH, .int mQ, .int mW, .ref aMd, .int mF, .int v.2.1, .int v.2.2.1, .int v.2.2.2.1, .int v.2.2.2.2.1, .int mT])), (aMn, .inl (K 6, 55, .inl v.2.2.2.2.2)), (aMd, .inl (K 12, 3, .inl nD))]
set_option maxHeartbeats 4000000 in
set_option maxRecDepth 100000 in
theorem c_X8_carries (l : Launch) (D : va_G) (K : Nat → ClassId) (aM : Nat) (aMn : Nat) (aMt : Nat) (aMk : Nat) (aMs : Nat) (aMl : Nat) (aMx : Nat) (aMd : Nat) (mU : Int32) (mB : Int32) (mI : Int32) (mH : Int32) (mQ : Int32) (mW : Int32) (mF : Int32) (mR : Int32) (mD : Int32) (mJ : Int32) (mA : Int32) (mT : Int32) (nN : Nat → Int32) (nD : Nat → Int32)  (v : Int32 × Int32 × Int32 × Int32 × Int32 × (Nat → Int32)) (hF : f_X8_carries mW mR mD mJ mA nN nD = some v) (sz : Nat) :
    (Met l yX8_carries wsX8_carries RM_X8_carries (PC D (TY K) [(aM, .inr (6, [.ref aMn, .ref aMt, .ref aMk, .int mU, .ref aMs, .int mB, .ref aMl, .int mI, .ref aMx, .int mH, .int mQ, .int mW, .ref aMd, .int mF, .int mR, .int mD, .int mJ, .int mA, .int mT])), (aMn, .inl (K 6, 55, .inl nN)), (aMd, .inl (K 12, 3, .inl nD))] [.ref aM] sz) (QI D (TY K) (wf_X8_carries K aM aMn aMt aMk aMs aMl aMx aMd mU mB mI mH mQ mW mF mT nD) v (va_A [(aM, .inr (6, [.ref aMn, .ref aMt, .ref aMk, .int mU, .ref aMs, .int mB, .ref aMl, .int mI, .ref aMx, .int mH, .int mQ, .int mW, .ref aMd, .int mF, .int mR, .int mD, .int mJ, .int mA, .int mT])), (aMn, .inl (K 6, 55, .inl nN)), (aMd, .inl (K 12, 3, .inl nD))] sz)) MC_X8_carries MS_X8_carries (va_A [(aM, .inr (6, [.ref aMn, .ref aMt, .ref aMk, .int mU, .ref aMs, .int mB, .ref aMl, .int mI, .ref aMx, .int mH, .int mQ, .int mW, .ref aMd, .int mF, .int mR, .int mD, .int mJ, .int mA, .int mT])), (aMn, .inl (K 6, 55, .inl nN)), (aMd, .inl (K 12, 3, .inl nD))] sz)) := by
  refine pro (Qf := fun A => QI D (TY K) (wf_X8_carries K aM aMn aMt aMk aMs aMl aMx aMd mU mB mI mH mQ mW mF mT nD) v A) (cc := cX8_carries) (maxL := 1) (ret := (some .boolean)) (by decide +kernel) rfl (Nat.le_of_ble_eq_true rfl) ?_
  intro p e s m args below meth c hx hb hr hts hown hlocks hml hini hK A hA hE hP hD hS ls hl
  have hown : s.vm.findClass RX8 = some m.cls := hown
  have hl : lv_has ls 1 [(0, .ref aM)] := hl
  rw [f_X8_carries] at hF
  refine lv_aload_n hx hb dX8_carries_0 rfl (lv_at hl 0 rfl) ?_
  refine va_get (D := D) (ci := 6) (v := .int mW) (C := RX8) (T := TX8) (N := 19) hx hb hts (fun _ h => List.mem_cons_of_mem _ (List.mem_append_left _ (List.mem_append_left _ (List.mem_append_right _ h)))) hown hK hP 0 rfl rfl 11 (by decide) (hts (.fieldLink RX8 196 "BarometerClubModel" "word" "C") (List.mem_of_getElem? (i := 1) rfl)) (fun _ h9 => h9) rfl dX8_carries_1 ?_
  by_cases c1 : mW = (98 : Int32)
  · have hF := oT c1 hF
    refine lv_tableIn (off := 209) (tgt := 213) hx hb dX8_carries_4 (by rw [c1]; decide) (by rw [c1]; decide) (by rw [c1]; rfl) (by decide) ?_
    refine lv_aload_n hx hb dX8_carries_213 rfl (lv_at hl 0 rfl) ?_
    refine lv_aload_n hx hb dX8_carries_214 rfl (lv_at hl 0 rfl) ?_
    refine va_get (D := D) (ci := 6) (v := .ref aMd) (C := RX8) (T := TX8) (N := 19) hx hb hts (fun _ h => List.mem_cons_of_mem _ (List.mem_append_left _ (List.mem_append_left _ (List.mem_append_right _ h)))) hown hK hP 0 rfl rfl 12 (by decide) (hts (.fieldLink RX8 29 "BarometerClubModel" "told" "[I") (List.mem_of_getElem? (i := 2) rfl)) (fun _ h9 => h9) rfl dX8_carries_215 ?_
    refine lv_iconst (v := (0 : Int32)) hx hb dX8_carries_218 (by decide) ?_
    refine va_iald hx hb hK hP 2 12 rfl rfl (inB_in (by decide : inB (0 : Int32) 3 = true)) dX8_carries_219 ?_
    obtain ⟨v2, hv2, hF⟩ := oB hF
    refine call_i (wr := [(aMd, .inl (K 12, 3, .inl nD))]) (wn := [(aM, .inr (6, [.ref aMn, .ref aMt, .ref aMk, .int mU, .ref aMs, .int mB, .ref aMl, .int mI, .ref aMx, .int mH, .int mQ, .int mW, .ref aMd, .int mF, .int v2.2.1, .int v2.2.2.1, .int v2.2.2.2.1, .int v2.2.2.2.2.1, .int mT])), (aMn, .inl (K 6, 55, .inl v2.2.2.2.2.2)), (aMd, .inl (K 12, 3, .inl nD))]) (va_runV (As := [.int (nD (0 : Int32).toNatClampNeg)]) (rest := []) ⟨hx, hb, hml, hown, hts⟩ (c_X8_bottles l D K aM aMn aMt aMk aMs aMl aMx aMd mU mB mI mH mQ mW mF mR mD mJ mA mT nN (nD (0 : Int32).toNatClampNeg) v2 hv2 s.heap.size) (cwV 1 hts gX8_carries_X8_bottles rfl rfl rfl (by decide +kernel) ⟨(Nat.le_of_ble_eq_true rfl), (Nat.le_of_ble_eq_true rfl)⟩) (prV hE hK hP hD hS hA [0, 1] rfl rfl 6 0 rfl rfl rfl) rfl rfl hl.1 rfl (lv_room (Nat.le_of_ble_eq_true rfl)) dX8_carries_220 ⟨(Nat.le_of_ble_eq_true rfl), (Nat.le_of_ble_eq_true rfl)⟩) hP hD hS hA [0, 1] [2] [1, 2, 0] rfl rfl rfl (by decide) rfl rfl (fun H locs hP hD hS => ?_)
    obtain ⟨g3, hF⟩ := oG hF
    exact fin_z (u := (v2.1, (v2.2.1, v2.2.2.1, v2.2.2.2.1, v2.2.2.2.2.1, v2.2.2.2.2.2))) hF (okN_n g3) hx hb hr hlocks hK hP hD hS (Nat.le_of_ble_eq_true rfl) (Nat.le_of_ble_eq_true rfl) dX8_carries_223
  have hF := oF c1 hF
  by_cases c4 : mW = (100 : Int32)
  · have hF := oT c4 hF
    refine lv_tableIn (off := 198) (tgt := 202) hx hb dX8_carries_4 (by rw [c4]; decide) (by rw [c4]; decide) (by rw [c4]; rfl) (by decide) ?_
    refine lv_aload_n hx hb dX8_carries_202 rfl (lv_at hl 0 rfl) ?_
    refine lv_aload_n hx hb dX8_carries_203 rfl (lv_at hl 0 rfl) ?_
    refine va_get (D := D) (ci := 6) (v := .ref aMd) (C := RX8) (T := TX8) (N := 19) hx hb hts (fun _ h => List.mem_cons_of_mem _ (List.mem_append_left _ (List.mem_append_left _ (List.mem_append_right _ h)))) hown hK hP 0 rfl rfl 12 (by decide) (hts (.fieldLink RX8 29 "BarometerClubModel" "told" "[I") (List.mem_of_getElem? (i := 2) rfl)) (fun _ h9 => h9) rfl dX8_carries_204 ?_
    refine lv_iconst (v := (0 : Int32)) hx hb dX8_carries_207 (by decide) ?_
    refine va_iald hx hb hK hP 2 12 rfl rfl (inB_in (by decide : inB (0 : Int32) 3 = true)) dX8_carries_208 ?_
    obtain ⟨v5, hv5, hF⟩ := oB hF
    refine call_i (wr := [(aMd, .inl (K 12, 3, .inl nD))]) (wn := [(aM, .inr (6, [.ref aMn, .ref aMt, .ref aMk, .int mU, .ref aMs, .int mB, .ref aMl, .int mI, .ref aMx, .int mH, .int mQ, .int mW, .ref aMd, .int mF, .int v5.2.1, .int v5.2.2.1, .int v5.2.2.2.1, .int v5.2.2.2.2.1, .int mT])), (aMn, .inl (K 6, 55, .inl v5.2.2.2.2.2)), (aMd, .inl (K 12, 3, .inl nD))]) (va_runV (As := [.int (nD (0 : Int32).toNatClampNeg)]) (rest := []) ⟨hx, hb, hml, hown, hts⟩ (c_X8_goesBy l D K aM aMn aMt aMk aMs aMl aMx aMd mU mB mI mH mQ mW mF mR mD mJ mA mT nN (nD (0 : Int32).toNatClampNeg) v5 hv5 s.heap.size) (cwV 1 hts gX8_carries_X8_goesBy rfl rfl rfl (by decide +kernel) ⟨(Nat.le_of_ble_eq_true rfl), (Nat.le_of_ble_eq_true rfl)⟩) (prV hE hK hP hD hS hA [0, 1] rfl rfl 6 0 rfl rfl rfl) rfl rfl hl.1 rfl (lv_room (Nat.le_of_ble_eq_true rfl)) dX8_carries_209 ⟨(Nat.le_of_ble_eq_true rfl), (Nat.le_of_ble_eq_true rfl)⟩) hP hD hS hA [0, 1] [2] [1, 2, 0] rfl rfl rfl (by decide) rfl rfl (fun H locs hP hD hS => ?_)
    obtain ⟨g6, hF⟩ := oG hF
    exact fin_z (u := (v5.1, (v5.2.1, v5.2.2.1, v5.2.2.2.1, v5.2.2.2.2.1, v5.2.2.2.2.2))) hF (okN_n g6) hx hb hr hlocks hK hP hD hS (Nat.le_of_ble_eq_true rfl) (Nat.le_of_ble_eq_true rfl) dX8_carries_212
  have hF := oF c4 hF
  by_cases c7 : mW = (106 : Int32)
  · have hF := oT c7 hF
    refine lv_tableIn (off := 108) (tgt := 112) hx hb dX8_carries_4 (by rw [c7]; decide) (by rw [c7]; decide) (by rw [c7]; rfl) (by decide) ?_
    refine lv_aload_n hx hb dX8_carries_112 rfl (lv_at hl 0 rfl) ?_
    refine lv_aload_n hx hb dX8_carries_113 rfl (lv_at hl 0 rfl) ?_
    refine va_get (D := D) (ci := 6) (v := .ref aMd) (C := RX8) (T := TX8) (N := 19) hx hb hts (fun _ h => List.mem_cons_of_mem _ (List.mem_append_left _ (List.mem_append_left _ (List.mem_append_right _ h)))) hown hK hP 0 rfl rfl 12 (by decide) (hts (.fieldLink RX8 29 "BarometerClubModel" "told" "[I") (List.mem_of_getElem? (i := 2) rfl)) (fun _ h9 => h9) rfl dX8_carries_114 ?_
    refine lv_iconst (v := (0 : Int32)) hx hb dX8_carries_117 (by decide) ?_
    refine va_iald hx hb hK hP 2 12 rfl rfl (inB_in (by decide : inB (0 : Int32) 3 = true)) dX8_carries_118 ?_
    obtain ⟨v8, hv8, hF⟩ := oB hF
    refine call_i (wr := [(aMd, .inl (K 12, 3, .inl nD))]) (wn := [(aM, .inr (6, [.ref aMn, .ref aMt, .ref aMk, .int mU, .ref aMs, .int mB, .ref aMl, .int mI, .ref aMx, .int mH, .int mQ, .int mW, .ref aMd, .int mF, .int v8.2.1, .int v8.2.2.1, .int v8.2.2.2.1, .int v8.2.2.2.2.1, .int mT])), (aMn, .inl (K 6, 55, .inl v8.2.2.2.2.2)), (aMd, .inl (K 12, 3, .inl nD))]) (va_runV (As := [.int (nD (0 : Int32).toNatClampNeg)]) (rest := []) ⟨hx, hb, hml, hown, hts⟩ (c_X8_joins l D K aM aMn aMt aMk aMs aMl aMx aMd mU mB mI mH mQ mW mF mR mD mJ mA mT nN (nD (0 : Int32).toNatClampNeg) v8 hv8 s.heap.size) (cwV 1 hts gX8_carries_X8_joins rfl rfl rfl (by decide +kernel) ⟨(Nat.le_of_ble_eq_true rfl), (Nat.le_of_ble_eq_true rfl)⟩) (prV hE hK hP hD hS hA [0, 1] rfl rfl 6 0 rfl rfl rfl) rfl rfl hl.1 rfl (lv_room (Nat.le_of_ble_eq_true rfl)) dX8_carries_119 ⟨(Nat.le_of_ble_eq_true rfl), (Nat.le_of_ble_eq_true rfl)⟩) hP hD hS hA [0, 1] [2] [1, 2, 0] rfl rfl rfl (by decide) rfl rfl (fun H locs hP hD hS => ?_)
    obtain ⟨g9, hF⟩ := oG hF
    exact fin_z (u := (v8.1, (v8.2.1, v8.2.2.1, v8.2.2.2.1, v8.2.2.2.2.1, v8.2.2.2.2.2))) hF (okN_n g9) hx hb hr hlocks hK hP hD hS (Nat.le_of_ble_eq_true rfl) (Nat.le_of_ble_eq_true rfl) dX8_carries_122
  have hF := oF c7 hF
  by_cases c10 : mW = (109 : Int32)
  · have hF := oT c10 hF
    refine lv_tableIn (off := 130) (tgt := 134) hx hb dX8_carries_4 (by rw [c10]; decide) (by rw [c10]; decide) (by rw [c10]; rfl) (by decide) ?_
    refine lv_aload_n hx hb dX8_carries_134 rfl (lv_at hl 0 rfl) ?_
    refine lv_aload_n hx hb dX8_carries_135 rfl (lv_at hl 0 rfl) ?_
    refine va_get (D := D) (ci := 6) (v := .ref aMd) (C := RX8) (T := TX8) (N := 19) hx hb hts (fun _ h => List.mem_cons_of_mem _ (List.mem_append_left _ (List.mem_append_left _ (List.mem_append_right _ h)))) hown hK hP 0 rfl rfl 12 (by decide) (hts (.fieldLink RX8 29 "BarometerClubModel" "told" "[I") (List.mem_of_getElem? (i := 2) rfl)) (fun _ h9 => h9) rfl dX8_carries_136 ?_
    refine lv_iconst (v := (0 : Int32)) hx hb dX8_carries_139 (by decide) ?_
    refine va_iald hx hb hK hP 2 12 rfl rfl (inB_in (by decide : inB (0 : Int32) 3 = true)) dX8_carries_140 ?_
    refine lv_aload_n hx hb dX8_carries_141 rfl (lv_at hl 0 rfl) ?_
    refine va_get (D := D) (ci := 6) (v := .ref aMd) (C := RX8) (T := TX8) (N := 19) hx hb hts (fun _ h => List.mem_cons_of_mem _ (List.mem_append_left _ (List.mem_append_left _ (List.mem_append_right _ h)))) hown hK hP 0 rfl rfl 12 (by decide) (hts (.fieldLink RX8 29 "BarometerClubModel" "told" "[I") (List.mem_of_getElem? (i := 2) rfl)) (fun _ h9 => h9) rfl dX8_carries_142 ?_
    refine lv_iconst (v := (1 : Int32)) hx hb dX8_carries_145 (by decide) ?_
    refine va_iald hx hb hK hP 2 12 rfl rfl (inB_in (by decide : inB (1 : Int32) 3 = true)) dX8_carries_146 ?_
    obtain ⟨v11, hv11, hF⟩ := oB hF
    refine call_i (wr := [(aMd, .inl (K 12, 3, .inl nD))]) (wn := [(aM, .inr (6, [.ref aMn, .ref aMt, .ref aMk, .int mU, .ref aMs, .int mB, .ref aMl, .int mI, .ref aMx, .int mH, .int mQ, .int mW, .ref aMd, .int mF, .int v11.2.1, .int v11.2.2.1, .int v11.2.2.2.1, .int v11.2.2.2.2.1, .int mT])), (aMn, .inl (K 6, 55, .inl v11.2.2.2.2.2)), (aMd, .inl (K 12, 3, .inl nD))]) (va_runV (As := [.int (nD (0 : Int32).toNatClampNeg), .int (nD (1 : Int32).toNatClampNeg)]) (rest := []) ⟨hx, hb, hml, hown, hts⟩ (c_X8_moves l D K aM aMn aMt aMk aMs aMl aMx aMd mU mB mI mH mQ mW mF mR mD mJ mA mT nN (nD (0 : Int32).toNatClampNeg) (nD (1 : Int32).toNatClampNeg) v11 hv11 s.heap.size) (cwV 2 hts gX8_carries_X8_moves rfl rfl rfl (by decide +kernel) ⟨(Nat.le_of_ble_eq_true rfl), (Nat.le_of_ble_eq_true rfl)⟩) (prV hE hK hP hD hS hA [0, 1] rfl rfl 6 0 rfl rfl rfl) rfl rfl hl.1 rfl (lv_room (Nat.le_of_ble_eq_true rfl)) dX8_carries_147 ⟨(Nat.le_of_ble_eq_true rfl), (Nat.le_of_ble_eq_true rfl)⟩) hP hD hS hA [0, 1] [2] [1, 2, 0] rfl rfl rfl (by decide) rfl rfl (fun H locs hP hD hS => ?_)
    obtain ⟨g12, hF⟩ := oG hF
    exact fin_z (u := (v11.1, (v11.2.1, v11.2.2.1, v11.2.2.2.1, v11.2.2.2.2.1, v11.2.2.2.2.2))) hF (okN_n g12) hx hb hr hlocks hK hP hD hS (Nat.le_of_ble_eq_true rfl) (Nat.le_of_ble_eq_true rfl) dX8_carries_150
  have hF := oF c10 hF
  by_cases c13 : mW = (111 : Int32)
  · have hF := oT c13 hF
    refine lv_tableIn (off := 220) (tgt := 224) hx hb dX8_carries_4 (by rw [c13]; decide) (by rw [c13]; decide) (by rw [c13]; rfl) (by decide) ?_
    refine lv_aload_n hx hb dX8_carries_224 rfl (lv_at hl 0 rfl) ?_
    refine lv_aload_n hx hb dX8_carries_225 rfl (lv_at hl 0 rfl) ?_
    refine va_get (D := D) (ci := 6) (v := .ref aMd) (C := RX8) (T := TX8) (N := 19) hx hb hts (fun _ h => List.mem_cons_of_mem _ (List.mem_append_left _ (List.mem_append_left _ (List.mem_append_right _ h)))) hown hK hP 0 rfl rfl 12 (by decide) (hts (.fieldLink RX8 29 "BarometerClubModel" "told" "[I") (List.mem_of_getElem? (i := 2) rfl)) (fun _ h9 => h9) rfl dX8_carries_226 ?_
    refine lv_iconst (v := (0 : Int32)) hx hb dX8_carries_229 (by decide) ?_
    refine va_iald hx hb hK hP 2 12 rfl rfl (inB_in (by decide : inB (0 : Int32) 3 = true)) dX8_carries_230 ?_
    obtain ⟨v14, hv14, hF⟩ := oB hF
    refine call_i (wr := [(aMd, .inl (K 12, 3, .inl nD))]) (wn := [(aM, .inr (6, [.ref aMn, .ref aMt, .ref aMk, .int mU, .ref aMs, .int mB, .ref aMl, .int mI, .ref aMx, .int mH, .int mQ, .int mW, .ref aMd, .int mF, .int v14.2.1, .int v14.2.2.1, .int v14.2.2.2.1, .int v14.2.2.2.2.1, .int mT])), (aMn, .inl (K 6, 55, .inl v14.2.2.2.2.2)), (aMd, .inl (K 12, 3, .inl nD))]) (va_runV (As := [.int (nD (0 : Int32).toNatClampNeg)]) (rest := []) ⟨hx, hb, hml, hown, hts⟩ (c_X8_letsOut l D K aM aMn aMt aMk aMs aMl aMx aMd mU mB mI mH mQ mW mF mR mD mJ mA mT nN (nD (0 : Int32).toNatClampNeg) v14 hv14 s.heap.size) (cwV 1 hts gX8_carries_X8_letsOut rfl rfl rfl (by decide +kernel) ⟨(Nat.le_of_ble_eq_true rfl), (Nat.le_of_ble_eq_true rfl)⟩) (prV hE hK hP hD hS hA [0, 1] rfl rfl 6 0 rfl rfl rfl) rfl rfl hl.1 rfl (lv_room (Nat.le_of_ble_eq_true rfl)) dX8_carries_231 ⟨(Nat.le_of_ble_eq_true rfl), (Nat.le_of_ble_eq_true rfl)⟩) hP hD hS hA [0, 1] [2] [1, 2, 0] rfl rfl rfl (by decide) rfl rfl (fun H locs hP hD hS => ?_)
    obtain ⟨g15, hF⟩ := oG hF
    exact fin_z (u := (v14.1, (v14.2.1, v14.2.2.1, v14.2.2.2.1, v14.2.2.2.2.1, v14.2.2.2.2.2))) hF (okN_n g15) hx hb hr hlocks hK hP hD hS (Nat.le_of_ble_eq_true rfl) (Nat.le_of_ble_eq_true rfl) dX8_carries_234
  have hF := oF c13 hF
  by_cases c16 : mW = (115 : Int32)
  · have hF := oT c16 hF
    refine lv_tableIn (off := 147) (tgt := 151) hx hb dX8_carries_4 (by rw [c16]; decide) (by rw [c16]; decide) (by rw [c16]; rfl) (by decide) ?_
    refine lv_aload_n hx hb dX8_carries_151 rfl (lv_at hl 0 rfl) ?_
    refine lv_aload_n hx hb dX8_carries_152 rfl (lv_at hl 0 rfl) ?_
    refine va_get (D := D) (ci := 6) (v := .ref aMd) (C := RX8) (T := TX8) (N := 19) hx hb hts (fun _ h => List.mem_cons_of_mem _ (List.mem_append_left _ (List.mem_append_left _ (List.mem_append_right _ h)))) hown hK hP 0 rfl rfl 12 (by decide) (hts (.fieldLink RX8 29 "BarometerClubModel" "told" "[I") (List.mem_of_getElem? (i := 2) rfl)) (fun _ h9 => h9) rfl dX8_carries_153 ?_
    refine lv_iconst (v := (0 : Int32)) hx hb dX8_carries_156 (by decide) ?_
    refine va_iald hx hb hK hP 2 12 rfl rfl (inB_in (by decide : inB (0 : Int32) 3 = true)) dX8_carries_157 ?_
    refine lv_aload_n hx hb dX8_carries_158 rfl (lv_at hl 0 rfl) ?_
    refine va_get (D := D) (ci := 6) (v := .ref aMd) (C := RX8) (T := TX8) (N := 19) hx hb hts (fun _ h => List.mem_cons_of_mem _ (List.mem_append_left _ (List.mem_append_left _ (List.mem_append_right _ h)))) hown hK hP 0 rfl rfl 12 (by decide) (hts (.fieldLink RX8 29 "BarometerClubModel" "told" "[I") (List.mem_of_getElem? (i := 2) rfl)) (fun _ h9 => h9) rfl dX8_carries_159 ?_
    refine lv_iconst (v := (1 : Int32)) hx hb dX8_carries_162 (by decide) ?_
    refine va_iald hx hb hK hP 2 12 rfl rfl (inB_in (by decide : inB (1 : Int32) 3 = true)) dX8_carries_163 ?_
    obtain ⟨v17, hv17, hF⟩ := oB hF
    refine call_i (wr := [(aMd, .inl (K 12, 3, .inl nD))]) (wn := [(aM, .inr (6, [.ref aMn, .ref aMt, .ref aMk, .int mU, .ref aMs, .int mB, .ref aMl, .int mI, .ref aMx, .int mH, .int mQ, .int mW, .ref aMd, .int mF, .int v17.2.1, .int v17.2.2.1, .int v17.2.2.2.1, .int v17.2.2.2.2.1, .int mT])), (aMn, .inl (K 6, 55, .inl v17.2.2.2.2.2)), (aMd, .inl (K 12, 3, .inl nD))]) (va_runV (As := [.int (nD (0 : Int32).toNatClampNeg), .int (nD (1 : Int32).toNatClampNeg)]) (rest := []) ⟨hx, hb, hml, hown, hts⟩ (c_X8_exchanges l D K aM aMn aMt aMk aMs aMl aMx aMd mU mB mI mH mQ mW mF mR mD mJ mA mT nN (nD (0 : Int32).toNatClampNeg) (nD (1 : Int32).toNatClampNeg) v17 hv17 s.heap.size) (cwV 2 hts gX8_carries_X8_exchanges rfl rfl rfl (by decide +kernel) ⟨(Nat.le_of_ble_eq_true rfl), (Nat.le_of_ble_eq_true rfl)⟩) (prV hE hK hP hD hS hA [0, 1] rfl rfl 6 0 rfl rfl rfl) rfl rfl hl.1 rfl (lv_room (Nat.le_of_ble_eq_true rfl)) dX8_carries_164 ⟨(Nat.le_of_ble_eq_true rfl), (Nat.le_of_ble_eq_true rfl)⟩) hP hD hS hA [0, 1] [2] [1, 2, 0] rfl rfl rfl (by decide) rfl rfl (fun H locs hP hD hS => ?_)
    obtain ⟨g18, hF⟩ := oG hF
    exact fin_z (u := (v17.1, (v17.2.1, v17.2.2.1, v17.2.2.2.1, v17.2.2.2.2.1, v17.2.2.2.2.2))) hF (okN_n g18) hx hb hr hlocks hK hP hD hS (Nat.le_of_ble_eq_true rfl) (Nat.le_of_ble_eq_true rfl) dX8_carries_167
  have hF := oF c16 hF
  by_cases c19 : mW = (116 : Int32)
  · have hF := oT c19 hF
    refine lv_tableIn (off := 187) (tgt := 191) hx hb dX8_carries_4 (by rw [c19]; decide) (by rw [c19]; decide) (by rw [c19]; rfl) (by decide) ?_
    refine lv_aload_n hx hb dX8_carries_191 rfl (lv_at hl 0 rfl) ?_
    refine lv_aload_n hx hb dX8_carries_192 rfl (lv_at hl 0 rfl) ?_
    refine va_get (D := D) (ci := 6) (v := .ref aMd) (C := RX8) (T := TX8) (N := 19) hx hb hts (fun _ h => List.mem_cons_of_mem _ (List.mem_append_left _ (List.mem_append_left _ (List.mem_append_right _ h)))) hown hK hP 0 rfl rfl 12 (by decide) (hts (.fieldLink RX8 29 "BarometerClubModel" "told" "[I") (List.mem_of_getElem? (i := 2) rfl)) (fun _ h9 => h9) rfl dX8_carries_193 ?_
    refine lv_iconst (v := (0 : Int32)) hx hb dX8_carries_196 (by decide) ?_
    refine va_iald hx hb hK hP 2 12 rfl rfl (inB_in (by decide : inB (0 : Int32) 3 = true)) dX8_carries_197 ?_
    obtain ⟨v20, hv20, hF⟩ := oB hF
    refine call_i (wr := [(aMd, .inl (K 12, 3, .inl nD))]) (wn := [(aM, .inr (6, [.ref aMn, .ref aMt, .ref aMk, .int mU, .ref aMs, .int mB, .ref aMl, .int mI, .ref aMx, .int mH, .int mQ, .int mW, .ref aMd, .int mF, .int v20.2.1, .int v20.2.2.1, .int v20.2.2.2.1, .int v20.2.2.2.2.1, .int mT])), (aMn, .inl (K 6, 55, .inl v20.2.2.2.2.2)), (aMd, .inl (K 12, 3, .inl nD))]) (va_runV (As := [.int (nD (0 : Int32).toNatClampNeg)]) (rest := []) ⟨hx, hb, hml, hown, hts⟩ (c_X8_taps l D K aM aMn aMt aMk aMs aMl aMx aMd mU mB mI mH mQ mW mF mR mD mJ mA mT nN (nD (0 : Int32).toNatClampNeg) v20 hv20 s.heap.size) (cwV 1 hts gX8_carries_X8_taps rfl rfl rfl (by decide +kernel) ⟨(Nat.le_of_ble_eq_true rfl), (Nat.le_of_ble_eq_true rfl)⟩) (prV hE hK hP hD hS hA [0, 1] rfl rfl 6 0 rfl rfl rfl) rfl rfl hl.1 rfl (lv_room (Nat.le_of_ble_eq_true rfl)) dX8_carries_198 ⟨(Nat.le_of_ble_eq_true rfl), (Nat.le_of_ble_eq_true rfl)⟩) hP hD hS hA [0, 1] [2] [1, 2, 0] rfl rfl rfl (by decide) rfl rfl (fun H locs hP hD hS => ?_)
    obtain ⟨g21, hF⟩ := oG hF
    exact fin_z (u := (v20.1, (v20.2.1, v20.2.2.1, v20.2.2.2.1, v20.2.2.2.2.1, v20.2.2.2.2.2))) hF (okN_n g21) hx hb hr hlocks hK hP hD hS (Nat.le_of_ble_eq_true rfl) (Nat.le_of_ble_eq_true rfl) dX8_carries_201
  have hF := oF c19 hF
  by_cases c22 : mW = (119 : Int32)
  · have hF := oT c22 hF
    refine lv_tableIn (off := 164) (tgt := 168) hx hb dX8_carries_4 (by rw [c22]; decide) (by rw [c22]; decide) (by rw [c22]; rfl) (by decide) ?_
    refine lv_aload_n hx hb dX8_carries_168 rfl (lv_at hl 0 rfl) ?_
    refine lv_aload_n hx hb dX8_carries_169 rfl (lv_at hl 0 rfl) ?_
    refine va_get (D := D) (ci := 6) (v := .ref aMd) (C := RX8) (T := TX8) (N := 19) hx hb hts (fun _ h => List.mem_cons_of_mem _ (List.mem_append_left _ (List.mem_append_left _ (List.mem_append_right _ h)))) hown hK hP 0 rfl rfl 12 (by decide) (hts (.fieldLink RX8 29 "BarometerClubModel" "told" "[I") (List.mem_of_getElem? (i := 2) rfl)) (fun _ h9 => h9) rfl dX8_carries_170 ?_
    refine lv_iconst (v := (0 : Int32)) hx hb dX8_carries_173 (by decide) ?_
    refine va_iald hx hb hK hP 2 12 rfl rfl (inB_in (by decide : inB (0 : Int32) 3 = true)) dX8_carries_174 ?_
    refine lv_aload_n hx hb dX8_carries_175 rfl (lv_at hl 0 rfl) ?_
    refine va_get (D := D) (ci := 6) (v := .ref aMd) (C := RX8) (T := TX8) (N := 19) hx hb hts (fun _ h => List.mem_cons_of_mem _ (List.mem_append_left _ (List.mem_append_left _ (List.mem_append_right _ h)))) hown hK hP 0 rfl rfl 12 (by decide) (hts (.fieldLink RX8 29 "BarometerClubModel" "told" "[I") (List.mem_of_getElem? (i := 2) rfl)) (fun _ h9 => h9) rfl dX8_carries_176 ?_
    refine lv_iconst (v := (1 : Int32)) hx hb dX8_carries_179 (by decide) ?_
    refine va_iald hx hb hK hP 2 12 rfl rfl (inB_in (by decide : inB (1 : Int32) 3 = true)) dX8_carries_180 ?_
    refine lv_aload_n hx hb dX8_carries_181 rfl (lv_at hl 0 rfl) ?_
    refine va_get (D := D) (ci := 6) (v := .ref aMd) (C := RX8) (T := TX8) (N := 19) hx hb hts (fun _ h => List.mem_cons_of_mem _ (List.mem_append_left _ (List.mem_append_left _ (List.mem_append_right _ h)))) hown hK hP 0 rfl rfl 12 (by decide) (hts (.fieldLink RX8 29 "BarometerClubModel" "told" "[I") (List.mem_of_getElem? (i := 2) rfl)) (fun _ h9 => h9) rfl dX8_carries_182 ?_
    refine lv_iconst (v := (2 : Int32)) hx hb dX8_carries_185 (by decide) ?_
    refine va_iald hx hb hK hP 2 12 rfl rfl (inB_in (by decide : inB (2 : Int32) 3 = true)) dX8_carries_186 ?_
    obtain ⟨v23, hv23, hF⟩ := oB hF
    refine call_i (wr := [(aMd, .inl (K 12, 3, .inl nD))]) (wn := [(aM, .inr (6, [.ref aMn, .ref aMt, .ref aMk, .int mU, .ref aMs, .int mB, .ref aMl, .int mI, .ref aMx, .int mH, .int mQ, .int mW, .ref aMd, .int mF, .int v23.2.1, .int v23.2.2.1, .int v23.2.2.2.1, .int v23.2.2.2.2.1, .int mT])), (aMn, .inl (K 6, 55, .inl v23.2.2.2.2.2)), (aMd, .inl (K 12, 3, .inl nD))]) (va_runV (As := [.int (nD (0 : Int32).toNatClampNeg), .int (nD (1 : Int32).toNatClampNeg), .int (nD (2 : Int32).toNatClampNeg)]) (rest := []) ⟨hx, hb, hml, hown, hts⟩ (c_X8_wagers l D K aM aMn aMt aMk aMs aMl aMx aMd mU mB mI mH mQ mW mF mR mD mJ mA mT nN (nD (0 : Int32).toNatClampNeg) (nD (1 : Int32).toNatClampNeg) (nD (2 : Int32).toNatClampNeg) v23 hv23 s.heap.size) (cwV 3 hts gX8_carries_X8_wagers rfl rfl rfl (by decide +kernel) ⟨(Nat.le_of_ble_eq_true rfl), (Nat.le_of_ble_eq_true rfl)⟩) (prV hE hK hP hD hS hA [0, 1] rfl rfl 6 0 rfl rfl rfl) rfl rfl hl.1 rfl (lv_room (Nat.le_of_ble_eq_true rfl)) dX8_carries_187 ⟨(Nat.le_of_ble_eq_true rfl), (Nat.le_of_ble_eq_true rfl)⟩) hP hD hS hA [0, 1] [2] [1, 2, 0] rfl rfl rfl (by decide) rfl rfl (fun H locs hP hD hS => ?_)
    obtain ⟨g24, hF⟩ := oG hF
    exact fin_z (u := (v23.1, (v23.2.1, v23.2.2.1, v23.2.2.2.1, v23.2.2.2.2.1, v23.2.2.2.2.2))) hF (okN_n g24) hx hb hr hlocks hK hP hD hS (Nat.le_of_ble_eq_true rfl) (Nat.le_of_ble_eq_true rfl) dX8_carries_190
  have hF := oF c22 hF
  by_cases c25 : mW = (120 : Int32)
  · have hF := oT c25 hF
    refine lv_tableIn (off := 119) (tgt := 123) hx hb dX8_carries_4 (by rw [c25]; decide) (by rw [c25]; decide) (by rw [c25]; rfl) (by decide) ?_
    refine lv_aload_n hx hb dX8_carries_123 rfl (lv_at hl 0 rfl) ?_
    refine lv_aload_n hx hb dX8_carries_124 rfl (lv_at hl 0 rfl) ?_
    refine va_get (D := D) (ci := 6) (v := .ref aMd) (C := RX8) (T := TX8) (N := 19) hx hb hts (fun _ h => List.mem_cons_of_mem _ (List.mem_append_left _ (List.mem_append_left _ (List.mem_append_right _ h)))) hown hK hP 0 rfl rfl 12 (by decide) (hts (.fieldLink RX8 29 "BarometerClubModel" "told" "[I") (List.mem_of_getElem? (i := 2) rfl)) (fun _ h9 => h9) rfl dX8_carries_125 ?_
    refine lv_iconst (v := (0 : Int32)) hx hb dX8_carries_128 (by decide) ?_
    refine va_iald hx hb hK hP 2 12 rfl rfl (inB_in (by decide : inB (0 : Int32) 3 = true)) dX8_carries_129 ?_
    obtain ⟨v26, hv26, hF⟩ := oB hF
    refine call_i (wr := [(aMd, .inl (K 12, 3, .inl nD))]) (wn := [(aM, .inr (6, [.ref aMn, .ref aMt, .ref aMk, .int mU, .ref aMs, .int mB, .ref aMl, .int mI, .ref aMx, .int mH, .int mQ, .int mW, .ref aMd, .int mF, .int v26.2.1, .int v26.2.2.1, .int v26.2.2.2.1, .int v26.2.2.2.2.1, .int mT])), (aMn, .inl (K 6, 55, .inl v26.2.2.2.2.2)), (aMd, .inl (K 12, 3, .inl nD))]) (va_runV (As := [.int (nD (0 : Int32).toNatClampNeg)]) (rest := []) ⟨hx, hb, hml, hown, hts⟩ (c_X8_leaves l D K aM aMn aMt aMk aMs aMl aMx aMd mU mB mI mH mQ mW mF mR mD mJ mA mT nN (nD (0 : Int32).toNatClampNeg) v26 hv26 s.heap.size) (cwV 1 hts gX8_carries_X8_leaves rfl rfl rfl (by decide +kernel) ⟨(Nat.le_of_ble_eq_true rfl), (Nat.le_of_ble_eq_true rfl)⟩) (prV hE hK hP hD hS hA [0, 1] rfl rfl 6 0 rfl rfl rfl) rfl rfl hl.1 rfl (lv_room (Nat.le_of_ble_eq_true rfl)) dX8_carries_130 ⟨(Nat.le_of_ble_eq_true rfl), (Nat.le_of_ble_eq_true rfl)⟩) hP hD hS hA [0, 1] [2] [1, 2, 0] rfl rfl rfl (by decide) rfl rfl (fun H locs hP hD hS => ?_)
    obtain ⟨g27, hF⟩ := oG hF
    exact fin_z (u := (v26.1, (v26.2.1, v26.2.2.1, v26.2.2.2.1, v26.2.2.2.2.1, v26.2.2.2.2.2))) hF (okN_n g27) hx hb hr hlocks hK hP hD hS (Nat.le_of_ble_eq_true rfl) (Nat.le_of_ble_eq_true rfl) dX8_carries_133
  have hF := oF c25 hF
  refine tsw_d (ks := ([98, 100, 106, 109, 111, 115, 116, 119, 120] : List Int)) (tgt := 235) hx hb dX8_carries_4 (by decide) (by decide) (List.forall_mem_cons.mpr ⟨lv_neT c1 rfl, List.forall_mem_cons.mpr ⟨lv_neT c4 rfl, List.forall_mem_cons.mpr ⟨lv_neT c7 rfl, List.forall_mem_cons.mpr ⟨lv_neT c10 rfl, List.forall_mem_cons.mpr ⟨lv_neT c13 rfl, List.forall_mem_cons.mpr ⟨lv_neT c16 rfl, List.forall_mem_cons.mpr ⟨lv_neT c19 rfl, List.forall_mem_cons.mpr ⟨lv_neT c22 rfl, List.forall_mem_cons.mpr ⟨lv_neT c25 rfl, fun _ h9 => absurd h9 List.not_mem_nil⟩⟩⟩⟩⟩⟩⟩⟩⟩) (by decide) ?_
  refine lv_aload_n hx hb dX8_carries_235 rfl (lv_at hl 0 rfl) ?_
  obtain ⟨v28, hv28, hF⟩ := oB hF
  refine call_i (wr := [(aMd, .inl (K 12, 3, .inl nD))]) (wn := [(aM, .inr (6, [.ref aMn, .ref aMt, .ref aMk, .int mU, .ref aMs, .int mB, .ref aMl, .int mI, .ref aMx, .int mH, .int mQ, .int mW, .ref aMd, .int mF, .int v28.2.1, .int v28.2.2.1, .int v28.2.2.2.1, .int v28.2.2.2.2.1, .int mT])), (aMn, .inl (K 6, 55, .inl v28.2.2.2.2.2)), (aMd, .inl (K 12, 3, .inl nD))]) (va_runV (As := []) (rest := []) ⟨hx, hb, hml, hown, hts⟩ (c_X8_reads l D K aM aMn aMt aMk aMs aMl aMx aMd mU mB mI mH mQ mW mF mR mD mJ mA mT nN v28 hv28 s.heap.size) (cwV 0 hts gX8_carries_X8_reads rfl rfl rfl (by decide +kernel) ⟨(Nat.le_of_ble_eq_true rfl), (Nat.le_of_ble_eq_true rfl)⟩) (prV hE hK hP hD hS hA [0, 1] rfl rfl 6 0 rfl rfl rfl) rfl rfl hl.1 rfl (lv_room (Nat.le_of_ble_eq_true rfl)) dX8_carries_236 ⟨(Nat.le_of_ble_eq_true rfl), (Nat.le_of_ble_eq_true rfl)⟩) hP hD hS hA [0, 1] [2] [1, 2, 0] rfl rfl rfl (by decide) rfl rfl (fun H locs hP hD hS => ?_)
  obtain ⟨g29, hF⟩ := oG hF
  exact fin_z (u := (v28.1, (v28.2.1, v28.2.2.1, v28.2.2.2.1, v28.2.2.2.2.1, v28.2.2.2.2.2))) hF (okN_n g29) hx hb hr hlocks hK hP hD hS (Nat.le_of_ble_eq_true rfl) (Nat.le_of_ble_eq_true rfl) dX8_carries_239
