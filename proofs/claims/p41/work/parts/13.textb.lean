abbrev RM_X4_writeMember : Room := { frames := 2, cells := 0, slots := 0, locals := 44 }
abbrev MC_X4_writeMember : Nat := 0
abbrev MS_X4_writeMember : Nat := 0
abbrev wf_X4_writeMember (K : Nat → ClassId) (aC : Nat) (aCr : Nat) (aL : Nat) (aLc : Nat) (row : Nat → Int32) (v : Int32 × (Nat → Int32)) : va_W := [(aC, .inr (0, [.ref aCr])), (aCr, .inl (K 0, 55, .inl row)), (aL, .inr (3, [.ref aLc, .int v.1])), (aLc, .inl (K 4, 32, .inl v.2))]
set_option maxHeartbeats 4000000 in
set_option maxRecDepth 100000 in
theorem c_X4_writeMember (l : Launch) (D : va_G) (K : Nat → ClassId) (aC : Nat) (aCr : Nat) (aL : Nat) (aLc : Nat) (row : Nat → Int32) (lL : Int32) (lC : Nat → Int32) (p2 : Int32) (v : Int32 × (Nat → Int32)) (hF : f_X4_writeMember row lL lC p2 = some v) (sz : Nat) :
    (Met l yX4_writeMember wsX4_writeMember RM_X4_writeMember (PC D (TY K) [(aC, .inr (0, [.ref aCr])), (aCr, .inl (K 0, 55, .inl row)), (aL, .inr (3, [.ref aLc, .int lL])), (aLc, .inl (K 4, 32, .inl lC))] [.ref aL, .ref aC, .int p2] sz) (QV D (TY K) (wf_X4_writeMember K aC aCr aL aLc row) v (va_A [(aC, .inr (0, [.ref aCr])), (aCr, .inl (K 0, 55, .inl row)), (aL, .inr (3, [.ref aLc, .int lL])), (aLc, .inl (K 4, 32, .inl lC))] sz)) MC_X4_writeMember MS_X4_writeMember (va_A [(aC, .inr (0, [.ref aCr])), (aCr, .inl (K 0, 55, .inl row)), (aL, .inr (3, [.ref aLc, .int lL])), (aLc, .inl (K 4, 32, .inl lC))] sz)) := by
  refine pro (Qf := fun A => QV D (TY K) (wf_X4_writeMember K aC aCr aL aLc row) v A) (cc := cX4_writeMember) (maxL := 3) (ret := none) (by decide +kernel) rfl (Nat.le_of_ble_eq_true rfl) ?_
  intro p e s m args below meth c hx hb hr hts hown hlocks hml hini hK A hA hE hP hD hS ls hl
  have hown : s.vm.findClass RX4 = some m.cls := hown
  have hl : lv_has ls 3 [(0, .ref aL), (1, .ref aC), (2, .int p2)] := hl
  rw [f_X4_writeMember] at hF
  refine lv_aload_n hx hb dX4_writeMember_0 rfl (lv_at hl 0 rfl) ?_
  refine lv_iconst (v := (0 : Int32)) hx hb dX4_writeMember_1 (by decide) ?_
  refine va_put (D := D) (ci := 3) (v := .int (0 : Int32)) (ty := .int) (C := RX4) (T := TX4) (N := 2) hx hb hts (fun _ h => List.mem_cons_of_mem _ (List.mem_append_left _ (List.mem_append_left _ (List.mem_append_left _ (List.mem_append_right _ h))))) tyX4 tyX4_ok nmX4 hown hK hP hD hS 2 rfl rfl 1 (by decide) (hts (.fieldLink RX4 15 "BarometerClub$Line" "length" "I") (List.mem_of_getElem? (i := 1) rfl)) (fun _ h9 => h9) rfl (by decide +kernel) rfl rfl (Nat.le_of_ble_eq_true rfl) dX4_writeMember_2 (fun H locs hP hD hS => ?_)
  have hP : va_P D vwC7 [(aC, .inr (0, [.ref aCr])), (aCr, .inl (K 0, 55, .inl row)), (aL, .inr (3, [.ref aLc, .int (0 : Int32)])), (aLc, .inl (K 4, 32, .inl lC))] H := hP
  have hD : va_D A [(aC, .inr (0, [.ref aCr])), (aCr, .inl (K 0, 55, .inl row)), (aL, .inr (3, [.ref aLc, .int (0 : Int32)])), (aLc, .inl (K 4, 32, .inl lC))] := hD
  refine lv_aload_n hx hb dX4_writeMember_5 rfl (lv_at hl 0 rfl) ?_
  refine lv_aload_n hx hb dX4_writeMember_6 rfl (lv_at hl 1 rfl) ?_
  refine lv_iload_n hx hb dX4_writeMember_7 rfl (lv_at hl 2 rfl) ?_
  refine lv_iconst (v := (0 : Int32)) hx hb dX4_writeMember_8 (by decide) ?_
  obtain ⟨v1, hv1, hF⟩ := oB hF
  refine call_i (wr := [(aL, .inr (3, [.ref aLc, .int (0 : Int32)])), (aLc, .inl (K 4, 32, .inl lC))]) (wn := [(aC, .inr (0, [.ref aCr])), (aCr, .inl (K 0, 55, .inl row)), (aL, .inr (3, [.ref aLc, .int (0 : Int32)])), (aLc, .inl (K 4, 32, .inl lC))]) (va_runV (As := [.int p2, .int (0 : Int32)]) (rest := [.ref aL]) ⟨hx, hb, hml, hown, hts⟩ (c_X0_of l D K aC aCr row p2 (0 : Int32) v1 hv1 H.size) (cwV 2 hts gX4_writeMember_X0_of rfl rfl rfl (by decide +kernel) ⟨(Nat.le_of_ble_eq_true rfl), (Nat.le_of_ble_eq_true rfl)⟩) (prV hE hK hP hD hS hA [0, 1] rfl rfl 0 0 rfl rfl rfl) rfl rfl hl.1 rfl (lv_room (Nat.le_of_ble_eq_true rfl)) dX4_writeMember_9 ⟨(Nat.le_of_ble_eq_true rfl), (Nat.le_of_ble_eq_true rfl)⟩) hP hD hS hA [0, 1] [2, 3] [2, 3, 0, 1] rfl rfl rfl (by decide) rfl rfl (fun H locs hP hD hS => ?_)
  obtain ⟨v2, hv2, hF⟩ := oB hF
  refine call_v (wr := [(aC, .inr (0, [.ref aCr])), (aCr, .inl (K 0, 55, .inl row))]) (wn := [(aC, .inr (0, [.ref aCr])), (aCr, .inl (K 0, 55, .inl row)), (aL, .inr (3, [.ref aLc, .int v2.1])), (aLc, .inl (K 4, 32, .inl v2.2))]) (va_runV (As := [.int v1.1]) (rest := []) ⟨hx, hb, hml, hown, hts⟩ (c_X4_addNumber l D K aL aLc (0 : Int32) lC v1.1 v2 hv2 H.size) (cwV 1 hts gX4_writeMember_X4_addNumber rfl rfl rfl (by decide +kernel) ⟨(Nat.le_of_ble_eq_true rfl), (Nat.le_of_ble_eq_true rfl)⟩) (prV hE hK hP hD hS hA [2, 3] rfl rfl 3 2 rfl rfl rfl) rfl rfl hl.1 rfl (lv_room (Nat.le_of_ble_eq_true rfl)) dX4_writeMember_12 ⟨(Nat.le_of_ble_eq_true rfl), (Nat.le_of_ble_eq_true rfl)⟩) hP hD hS hA [2, 3] [0, 1] [0, 1, 2, 3] rfl rfl rfl (by decide) rfl rfl (fun H locs hP hD hS => ?_)
  refine lv_aload_n hx hb dX4_writeMember_15 rfl (lv_at hl 0 rfl) ?_
  refine lv_bipush (v := (64 : Int32)) hx hb dX4_writeMember_16 (by decide) ?_
  obtain ⟨v3, hv3, hF⟩ := oB hF
  refine call_v (wr := [(aC, .inr (0, [.ref aCr])), (aCr, .inl (K 0, 55, .inl row))]) (wn := [(aC, .inr (0, [.ref aCr])), (aCr, .inl (K 0, 55, .inl row)), (aL, .inr (3, [.ref aLc, .int v3.1])), (aLc, .inl (K 4, 32, .inl v3.2))]) (va_runV (As := [.int (64 : Int32)]) (rest := []) ⟨hx, hb, hml, hown, hts⟩ (c_X4_add l D K aL aLc v2.1 v2.2 (64 : Int32) v3 hv3 H.size) (cwV 1 hts gX4_writeMember_X4_add rfl rfl rfl (by decide +kernel) ⟨(Nat.le_of_ble_eq_true rfl), (Nat.le_of_ble_eq_true rfl)⟩) (prV hE hK hP hD hS hA [2, 3] rfl rfl 3 2 rfl rfl rfl) rfl rfl hl.1 rfl (lv_room (Nat.le_of_ble_eq_true rfl)) dX4_writeMember_18 ⟨(Nat.le_of_ble_eq_true rfl), (Nat.le_of_ble_eq_true rfl)⟩) hP hD hS hA [2, 3] [0, 1] [0, 1, 2, 3] rfl rfl rfl (by decide) rfl rfl (fun H locs hP hD hS => ?_)
  refine lv_aload_n hx hb dX4_writeMember_21 rfl (lv_at hl 0 rfl) ?_
  refine lv_aload_n hx hb dX4_writeMember_22 rfl (lv_at hl 1 rfl) ?_
  refine lv_iload_n hx hb dX4_writeMember_23 rfl (lv_at hl 2 rfl) ?_
  refine lv_iconst (v := (1 : Int32)) hx hb dX4_writeMember_24 (by decide) ?_
  obtain ⟨v4, hv4, hF⟩ := oB hF
  refine call_i (wr := [(aL, .inr (3, [.ref aLc, .int v3.1])), (aLc, .inl (K 4, 32, .inl v3.2))]) (wn := [(aC, .inr (0, [.ref aCr])), (aCr, .inl (K 0, 55, .inl row)), (aL, .inr (3, [.ref aLc, .int v3.1])), (aLc, .inl (K 4, 32, .inl v3.2))]) (va_runV (As := [.int p2, .int (1 : Int32)]) (rest := [.ref aL]) ⟨hx, hb, hml, hown, hts⟩ (c_X0_of l D K aC aCr row p2 (1 : Int32) v4 hv4 H.size) (cwV 2 hts gX4_writeMember_X0_of rfl rfl rfl (by decide +kernel) ⟨(Nat.le_of_ble_eq_true rfl), (Nat.le_of_ble_eq_true rfl)⟩) (prV hE hK hP hD hS hA [0, 1] rfl rfl 0 0 rfl rfl rfl) rfl rfl hl.1 rfl (lv_room (Nat.le_of_ble_eq_true rfl)) dX4_writeMember_25 ⟨(Nat.le_of_ble_eq_true rfl), (Nat.le_of_ble_eq_true rfl)⟩) hP hD hS hA [0, 1] [2, 3] [2, 3, 0, 1] rfl rfl rfl (by decide) rfl rfl (fun H locs hP hD hS => ?_)
  obtain ⟨v5, hv5, hF⟩ := oB hF
  refine call_v (wr := [(aC, .inr (0, [.ref aCr])), (aCr, .inl (K 0, 55, .inl row))]) (wn := [(aC, .inr (0, [.ref aCr])), (aCr, .inl (K 0, 55, .inl row)), (aL, .inr (3, [.ref aLc, .int v5.1])), (aLc, .inl (K 4, 32, .inl v5.2))]) (va_runV (As := [.int v4.1]) (rest := []) ⟨hx, hb, hml, hown, hts⟩ (c_X4_addNumber l D K aL aLc v3.1 v3.2 v4.1 v5 hv5 H.size) (cwV 1 hts gX4_writeMember_X4_addNumber rfl rfl rfl (by decide +kernel) ⟨(Nat.le_of_ble_eq_true rfl), (Nat.le_of_ble_eq_true rfl)⟩) (prV hE hK hP hD hS hA [2, 3] rfl rfl 3 2 rfl rfl rfl) rfl rfl hl.1 rfl (lv_room (Nat.le_of_ble_eq_true rfl)) dX4_writeMember_28 ⟨(Nat.le_of_ble_eq_true rfl), (Nat.le_of_ble_eq_true rfl)⟩) hP hD hS hA [2, 3] [0, 1] [0, 1, 2, 3] rfl rfl rfl (by decide) rfl rfl (fun H locs hP hD hS => ?_)
  refine lv_aload_n hx hb dX4_writeMember_31 rfl (lv_at hl 1 rfl) ?_
  refine lv_iload_n hx hb dX4_writeMember_32 rfl (lv_at hl 2 rfl) ?_
  obtain ⟨v6, hv6, hF⟩ := oB hF
  refine call_i (wr := [(aL, .inr (3, [.ref aLc, .int v5.1])), (aLc, .inl (K 4, 32, .inl v5.2))]) (wn := [(aC, .inr (0, [.ref aCr])), (aCr, .inl (K 0, 55, .inl row)), (aL, .inr (3, [.ref aLc, .int v5.1])), (aLc, .inl (K 4, 32, .inl v5.2))]) (va_runV (As := [.int p2]) (rest := []) ⟨hx, hb, hml, hown, hts⟩ (c_X0_hasWagered l D K aC aCr row p2 v6 hv6 H.size) (cwV 1 hts gX4_writeMember_X0_hasWagered rfl rfl rfl (by decide +kernel) ⟨(Nat.le_of_ble_eq_true rfl), (Nat.le_of_ble_eq_true rfl)⟩) (prV hE hK hP hD hS hA [0, 1] rfl rfl 0 0 rfl rfl rfl) rfl rfl hl.1 rfl (lv_room (Nat.le_of_ble_eq_true rfl)) dX4_writeMember_33 ⟨(Nat.le_of_ble_eq_true rfl), (Nat.le_of_ble_eq_true rfl)⟩) hP hD hS hA [0, 1] [2, 3] [2, 3, 0, 1] rfl rfl rfl (by decide) rfl rfl (fun H locs hP hD hS => ?_)
  refine lv_if_eq (tgt := 71) hx hb dX4_writeMember_36 (by decide) (fun c7 => ?_) (fun c7 => ?_)
  · have hF := oT c7 hF
    refine lv_aload_n hx hb dX4_writeMember_71 rfl (lv_at hl 1 rfl) ?_
    refine lv_iload_n hx hb dX4_writeMember_72 rfl (lv_at hl 2 rfl) ?_
    obtain ⟨v8, hv8, hF⟩ := oB hF
    refine call_i (wr := [(aL, .inr (3, [.ref aLc, .int v5.1])), (aLc, .inl (K 4, 32, .inl v5.2))]) (wn := [(aC, .inr (0, [.ref aCr])), (aCr, .inl (K 0, 55, .inl row)), (aL, .inr (3, [.ref aLc, .int v5.1])), (aLc, .inl (K 4, 32, .inl v5.2))]) (va_runV (As := [.int p2]) (rest := []) ⟨hx, hb, hml, hown, hts⟩ (c_X0_hasTapped l D K aC aCr row p2 v8 hv8 H.size) (cwV 1 hts gX4_writeMember_X0_hasTapped rfl rfl rfl (by decide +kernel) ⟨(Nat.le_of_ble_eq_true rfl), (Nat.le_of_ble_eq_true rfl)⟩) (prV hE hK hP hD hS hA [0, 1] rfl rfl 0 0 rfl rfl rfl) rfl rfl hl.1 rfl (lv_room (Nat.le_of_ble_eq_true rfl)) dX4_writeMember_73 ⟨(Nat.le_of_ble_eq_true rfl), (Nat.le_of_ble_eq_true rfl)⟩) hP hD hS hA [0, 1] [2, 3] [2, 3, 0, 1] rfl rfl rfl (by decide) rfl rfl (fun H locs hP hD hS => ?_)
    refine lv_if_eq (tgt := 85) hx hb dX4_writeMember_76 (by decide) (fun c9 => ?_) (fun c9 => ?_)
    · have hF := oT c9 hF
      exact fin_v (u := (v5.1, v5.2)) hF hx hb hr hlocks hK hP hD hS (Nat.le_of_ble_eq_true rfl) (Nat.le_of_ble_eq_true rfl) dX4_writeMember_85
    · have hF := oF c9 hF
      refine lv_aload_n hx hb dX4_writeMember_79 rfl (lv_at hl 0 rfl) ?_
      refine lv_bipush (v := (33 : Int32)) hx hb dX4_writeMember_80 (by decide) ?_
      obtain ⟨v10, hv10, hF⟩ := oB hF
      refine call_v (wr := [(aC, .inr (0, [.ref aCr])), (aCr, .inl (K 0, 55, .inl row))]) (wn := [(aC, .inr (0, [.ref aCr])), (aCr, .inl (K 0, 55, .inl row)), (aL, .inr (3, [.ref aLc, .int v10.1])), (aLc, .inl (K 4, 32, .inl v10.2))]) (va_runV (As := [.int (33 : Int32)]) (rest := []) ⟨hx, hb, hml, hown, hts⟩ (c_X4_add l D K aL aLc v5.1 v5.2 (33 : Int32) v10 hv10 H.size) (cwV 1 hts gX4_writeMember_X4_add rfl rfl rfl (by decide +kernel) ⟨(Nat.le_of_ble_eq_true rfl), (Nat.le_of_ble_eq_true rfl)⟩) (prV hE hK hP hD hS hA [2, 3] rfl rfl 3 2 rfl rfl rfl) rfl rfl hl.1 rfl (lv_room (Nat.le_of_ble_eq_true rfl)) dX4_writeMember_82 ⟨(Nat.le_of_ble_eq_true rfl), (Nat.le_of_ble_eq_true rfl)⟩) hP hD hS hA [2, 3] [0, 1] [0, 1, 2, 3] rfl rfl rfl (by decide) rfl rfl (fun H locs hP hD hS => ?_)
      exact fin_v (u := (v10.1, v10.2)) hF hx hb hr hlocks hK hP hD hS (Nat.le_of_ble_eq_true rfl) (Nat.le_of_ble_eq_true rfl) dX4_writeMember_85
  · have hF := oF c7 hF
    refine lv_aload_n hx hb dX4_writeMember_39 rfl (lv_at hl 0 rfl) ?_
    refine lv_bipush (v := (61 : Int32)) hx hb dX4_writeMember_40 (by decide) ?_
    obtain ⟨v11, hv11, hF⟩ := oB hF
    refine call_v (wr := [(aC, .inr (0, [.ref aCr])), (aCr, .inl (K 0, 55, .inl row))]) (wn := [(aC, .inr (0, [.ref aCr])), (aCr, .inl (K 0, 55, .inl row)), (aL, .inr (3, [.ref aLc, .int v11.1])), (aLc, .inl (K 4, 32, .inl v11.2))]) (va_runV (As := [.int (61 : Int32)]) (rest := []) ⟨hx, hb, hml, hown, hts⟩ (c_X4_add l D K aL aLc v5.1 v5.2 (61 : Int32) v11 hv11 H.size) (cwV 1 hts gX4_writeMember_X4_add rfl rfl rfl (by decide +kernel) ⟨(Nat.le_of_ble_eq_true rfl), (Nat.le_of_ble_eq_true rfl)⟩) (prV hE hK hP hD hS hA [2, 3] rfl rfl 3 2 rfl rfl rfl) rfl rfl hl.1 rfl (lv_room (Nat.le_of_ble_eq_true rfl)) dX4_writeMember_42 ⟨(Nat.le_of_ble_eq_true rfl), (Nat.le_of_ble_eq_true rfl)⟩) hP hD hS hA [2, 3] [0, 1] [0, 1, 2, 3] rfl rfl rfl (by decide) rfl rfl (fun H locs hP hD hS => ?_)
    refine lv_aload_n hx hb dX4_writeMember_45 rfl (lv_at hl 0 rfl) ?_
    refine lv_aload_n hx hb dX4_writeMember_46 rfl (lv_at hl 1 rfl) ?_
    refine lv_iload_n hx hb dX4_writeMember_47 rfl (lv_at hl 2 rfl) ?_
    refine lv_iconst (v := (2 : Int32)) hx hb dX4_writeMember_48 (by decide) ?_
    obtain ⟨v12, hv12, hF⟩ := oB hF
    refine call_i (wr := [(aL, .inr (3, [.ref aLc, .int v11.1])), (aLc, .inl (K 4, 32, .inl v11.2))]) (wn := [(aC, .inr (0, [.ref aCr])), (aCr, .inl (K 0, 55, .inl row)), (aL, .inr (3, [.ref aLc, .int v11.1])), (aLc, .inl (K 4, 32, .inl v11.2))]) (va_runV (As := [.int p2, .int (2 : Int32)]) (rest := [.ref aL]) ⟨hx, hb, hml, hown, hts⟩ (c_X0_of l D K aC aCr row p2 (2 : Int32) v12 hv12 H.size) (cwV 2 hts gX4_writeMember_X0_of rfl rfl rfl (by decide +kernel) ⟨(Nat.le_of_ble_eq_true rfl), (Nat.le_of_ble_eq_true rfl)⟩) (prV hE hK hP hD hS hA [0, 1] rfl rfl 0 0 rfl rfl rfl) rfl rfl hl.1 rfl (lv_room (Nat.le_of_ble_eq_true rfl)) dX4_writeMember_49 ⟨(Nat.le_of_ble_eq_true rfl), (Nat.le_of_ble_eq_true rfl)⟩) hP hD hS hA [0, 1] [2, 3] [2, 3, 0, 1] rfl rfl rfl (by decide) rfl rfl (fun H locs hP hD hS => ?_)
    obtain ⟨v13, hv13, hF⟩ := oB hF
    refine call_v (wr := [(aC, .inr (0, [.ref aCr])), (aCr, .inl (K 0, 55, .inl row))]) (wn := [(aC, .inr (0, [.ref aCr])), (aCr, .inl (K 0, 55, .inl row)), (aL, .inr (3, [.ref aLc, .int v13.1])), (aLc, .inl (K 4, 32, .inl v13.2))]) (va_runV (As := [.int v12.1]) (rest := []) ⟨hx, hb, hml, hown, hts⟩ (c_X4_addNumber l D K aL aLc v11.1 v11.2 v12.1 v13 hv13 H.size) (cwV 1 hts gX4_writeMember_X4_addNumber rfl rfl rfl (by decide +kernel) ⟨(Nat.le_of_ble_eq_true rfl), (Nat.le_of_ble_eq_true rfl)⟩) (prV hE hK hP hD hS hA [2, 3] rfl rfl 3 2 rfl rfl rfl) rfl rfl hl.1 rfl (lv_room (Nat.le_of_ble_eq_true rfl)) dX4_writeMember_52 ⟨(Nat.le_of_ble_eq_true rfl), (Nat.le_of_ble_eq_true rfl)⟩) hP hD hS hA [2, 3] [0, 1] [0, 1, 2, 3] rfl rfl rfl (by decide) rfl rfl (fun H locs hP hD hS => ?_)
    refine lv_aload_n hx hb dX4_writeMember_55 rfl (lv_at hl 0 rfl) ?_
    refine lv_bipush (v := (47 : Int32)) hx hb dX4_writeMember_56 (by decide) ?_
    obtain ⟨v14, hv14, hF⟩ := oB hF
    refine call_v (wr := [(aC, .inr (0, [.ref aCr])), (aCr, .inl (K 0, 55, .inl row))]) (wn := [(aC, .inr (0, [.ref aCr])), (aCr, .inl (K 0, 55, .inl row)), (aL, .inr (3, [.ref aLc, .int v14.1])), (aLc, .inl (K 4, 32, .inl v14.2))]) (va_runV (As := [.int (47 : Int32)]) (rest := []) ⟨hx, hb, hml, hown, hts⟩ (c_X4_add l D K aL aLc v13.1 v13.2 (47 : Int32) v14 hv14 H.size) (cwV 1 hts gX4_writeMember_X4_add rfl rfl rfl (by decide +kernel) ⟨(Nat.le_of_ble_eq_true rfl), (Nat.le_of_ble_eq_true rfl)⟩) (prV hE hK hP hD hS hA [2, 3] rfl rfl 3 2 rfl rfl rfl) rfl rfl hl.1 rfl (lv_room (Nat.le_of_ble_eq_true rfl)) dX4_writeMember_58 ⟨(Nat.le_of_ble_eq_true rfl), (Nat.le_of_ble_eq_true rfl)⟩) hP hD hS hA [2, 3] [0, 1] [0, 1, 2, 3] rfl rfl rfl (by decide) rfl rfl (fun H locs hP hD hS => ?_)
    refine lv_aload_n hx hb dX4_writeMember_61 rfl (lv_at hl 0 rfl) ?_
    refine lv_aload_n hx hb dX4_writeMember_62 rfl (lv_at hl 1 rfl) ?_
    refine lv_iload_n hx hb dX4_writeMember_63 rfl (lv_at hl 2 rfl) ?_
    refine lv_iconst (v := (3 : Int32)) hx hb dX4_writeMember_64 (by decide) ?_
    obtain ⟨v15, hv15, hF⟩ := oB hF
    refine call_i (wr := [(aL, .inr (3, [.ref aLc, .int v14.1])), (aLc, .inl (K 4, 32, .inl v14.2))]) (wn := [(aC, .inr (0, [.ref aCr])), (aCr, .inl (K 0, 55, .inl row)), (aL, .inr (3, [.ref aLc, .int v14.1])), (aLc, .inl (K 4, 32, .inl v14.2))]) (va_runV (As := [.int p2, .int (3 : Int32)]) (rest := [.ref aL]) ⟨hx, hb, hml, hown, hts⟩ (c_X0_of l D K aC aCr row p2 (3 : Int32) v15 hv15 H.size) (cwV 2 hts gX4_writeMember_X0_of rfl rfl rfl (by decide +kernel) ⟨(Nat.le_of_ble_eq_true rfl), (Nat.le_of_ble_eq_true rfl)⟩) (prV hE hK hP hD hS hA [0, 1] rfl rfl 0 0 rfl rfl rfl) rfl rfl hl.1 rfl (lv_room (Nat.le_of_ble_eq_true rfl)) dX4_writeMember_65 ⟨(Nat.le_of_ble_eq_true rfl), (Nat.le_of_ble_eq_true rfl)⟩) hP hD hS hA [0, 1] [2, 3] [2, 3, 0, 1] rfl rfl rfl (by decide) rfl rfl (fun H locs hP hD hS => ?_)
    obtain ⟨v16, hv16, hF⟩ := oB hF
    refine call_v (wr := [(aC, .inr (0, [.ref aCr])), (aCr, .inl (K 0, 55, .inl row))]) (wn := [(aC, .inr (0, [.ref aCr])), (aCr, .inl (K 0, 55, .inl row)), (aL, .inr (3, [.ref aLc, .int v16.1])), (aLc, .inl (K 4, 32, .inl v16.2))]) (va_runV (As := [.int v15.1]) (rest := []) ⟨hx, hb, hml, hown, hts⟩ (c_X4_addNumber l D K aL aLc v14.1 v14.2 v15.1 v16 hv16 H.size) (cwV 1 hts gX4_writeMember_X4_addNumber rfl rfl rfl (by decide +kernel) ⟨(Nat.le_of_ble_eq_true rfl), (Nat.le_of_ble_eq_true rfl)⟩) (prV hE hK hP hD hS hA [2, 3] rfl rfl 3 2 rfl rfl rfl) rfl rfl hl.1 rfl (lv_room (Nat.le_of_ble_eq_true rfl)) dX4_writeMember_68 ⟨(Nat.le_of_ble_eq_true rfl), (Nat.le_of_ble_eq_true rfl)⟩) hP hD hS hA [2, 3] [0, 1] [0, 1, 2, 3] rfl rfl rfl (by decide) rfl rfl (fun H locs hP hD hS => ?_)
    refine lv_aload_n hx hb dX4_writeMember_71 rfl (lv_at hl 1 rfl) ?_
    refine lv_iload_n hx hb dX4_writeMember_72 rfl (lv_at hl 2 rfl) ?_
    obtain ⟨v17, hv17, hF⟩ := oB hF
    refine call_i (wr := [(aL, .inr (3, [.ref aLc, .int v16.1])), (aLc, .inl (K 4, 32, .inl v16.2))]) (wn := [(aC, .inr (0, [.ref aCr])), (aCr, .inl (K 0, 55, .inl row)), (aL, .inr (3, [.ref aLc, .int v16.1])), (aLc, .inl (K 4, 32, .inl v16.2))]) (va_runV (As := [.int p2]) (rest := []) ⟨hx, hb, hml, hown, hts⟩ (c_X0_hasTapped l D K aC aCr row p2 v17 hv17 H.size) (cwV 1 hts gX4_writeMember_X0_hasTapped rfl rfl rfl (by decide +kernel) ⟨(Nat.le_of_ble_eq_true rfl), (Nat.le_of_ble_eq_true rfl)⟩) (prV hE hK hP hD hS hA [0, 1] rfl rfl 0 0 rfl rfl rfl) rfl rfl hl.1 rfl (lv_room (Nat.le_of_ble_eq_true rfl)) dX4_writeMember_73 ⟨(Nat.le_of_ble_eq_true rfl), (Nat.le_of_ble_eq_true rfl)⟩) hP hD hS hA [0, 1] [2, 3] [2, 3, 0, 1] rfl rfl rfl (by decide) rfl rfl (fun H locs hP hD hS => ?_)
    refine lv_if_eq (tgt := 85) hx hb dX4_writeMember_76 (by decide) (fun c18 => ?_) (fun c18 => ?_)
    · have hF := oT c18 hF
      exact fin_v (u := (v16.1, v16.2)) hF hx hb hr hlocks hK hP hD hS (Nat.le_of_ble_eq_true rfl) (Nat.le_of_ble_eq_true rfl) dX4_writeMember_85
    · have hF := oF c18 hF
      refine lv_aload_n hx hb dX4_writeMember_79 rfl (lv_at hl 0 rfl) ?_
      refine lv_bipush (v := (33 : Int32)) hx hb dX4_writeMember_80 (by decide) ?_
      obtain ⟨v19, hv19, hF⟩ := oB hF
      refine call_v (wr := [(aC, .inr (0, [.ref aCr])), (aCr, .inl (K 0, 55, .inl row))]) (wn := [(aC, .inr (0, [.ref aCr])), (aCr, .inl (K 0, 55, .inl row)), (aL, .inr (3, [.ref aLc, .int v19.1])), (aLc, .inl (K 4, 32, .inl v19.2))]) (va_runV (As := [.int (33 : Int32)]) (rest := []) ⟨hx, hb, hml, hown, hts⟩ (c_X4_add l D K aL aLc v16.1 v16.2 (33 : Int32) v19 hv19 H.size) (cwV 1 hts gX4_writeMember_X4_add rfl rfl rfl (by decide +kernel) ⟨(Nat.le_of_ble_eq_true rfl), (Nat.le_of_ble_eq_true rfl)⟩) (prV hE hK hP hD hS hA [2, 3] rfl rfl 3 2 rfl rfl rfl) rfl rfl hl.1 rfl (lv_room (Nat.le_of_ble_eq_true rfl)) dX4_writeMember_82 ⟨(Nat.le_of_ble_eq_true rfl), (Nat.le_of_ble_eq_true rfl)⟩) hP hD hS hA [2, 3] [0, 1] [0, 1, 2, 3] rfl rfl rfl (by decide) rfl rfl (fun H locs hP hD hS => ?_)
      exact fin_v (u := (v19.1, v19.2)) hF hx hb hr hlocks hK hP hD hS (Nat.le_of_ble_eq_true rfl) (Nat.le_of_ble_eq_true rfl) dX4_writeMember_85
abbrev RM_X4_writeHeights : Room := { frames := 2, cells := 0, slots := 0, locals := 45 }
abbrev MC_X4_writeHeights : Nat := 0
abbrev MS_X4_writeHeights : Nat := 0
abbrev wf_X4_writeHeights (K : Nat → ClassId) (aC : Nat) (aCr : Nat) (aL : Nat) (aLc : Nat) (row : Nat → Int32) (v : Int32 × (Nat → Int32)) : va_W := [(aC, .inr (0, [.ref aCr])), (aCr, .inl (K 0, 55, .inl row)), (aL, .inr (3, [.ref aLc, .int v.1])), (aLc, .inl (K 4, 32, .inl v.2))]
set_option maxHeartbeats 4000000 in
set_option maxRecDepth 100000 in
theorem c_X4_writeHeights (l : Launch) (D : va_G) (K : Nat → ClassId) (aC : Nat) (aCr : Nat) (aL : Nat) (aLc : Nat) (row : Nat → Int32) (lL : Int32) (lC : Nat → Int32)  (v : Int32 × (Nat → Int32)) (hF : f_X4_writeHeights row lL lC = some v) (sz : Nat) :
    (Met l yX4_writeHeights wsX4_writeHeights RM_X4_writeHeights (PC D (TY K) [(aC, .inr (0, [.ref aCr])), (aCr, .inl (K 0, 55, .inl row)), (aL, .inr (3, [.ref aLc, .int lL])), (aLc, .inl (K 4, 32, .inl lC))] [.ref aL, .ref aC] sz) (QV D (TY K) (wf_X4_writeHeights K aC aCr aL aLc row) v (va_A [(aC, .inr (0, [.ref aCr])), (aCr, .inl (K 0, 55, .inl row)), (aL, .inr (3, [.ref aLc, .int lL])), (aLc, .inl (K 4, 32, .inl lC))] sz)) MC_X4_writeHeights MS_X4_writeHeights (va_A [(aC, .inr (0, [.ref aCr])), (aCr, .inl (K 0, 55, .inl row)), (aL, .inr (3, [.ref aLc, .int lL])), (aLc, .inl (K 4, 32, .inl lC))] sz)) := by
  refine pro (Qf := fun A => QV D (TY K) (wf_X4_writeHeights K aC aCr aL aLc row) v A) (cc := cX4_writeHeights) (maxL := 4) (ret := none) (by decide +kernel) rfl (Nat.le_of_ble_eq_true rfl) ?_
  intro p e s m args below meth c hx hb hr hts hown hlocks hml hini hK A hA hE hP hD hS ls hl
  have hown : s.vm.findClass RX4 = some m.cls := hown
  have hl : lv_has ls 4 [(0, .ref aL), (1, .ref aC)] := hl
  have loop_7 : ∀  (n : Nat) (y7_2 : Int32) (lL_7 : Int32) (lC_7 : Nat → Int32), f_X4_writeHeights_L7 row n y7_2 lL_7 lC_7 = some v → ∀ (H : Heap) (locs : List Loc), va_P D vwC7 [(aC, .inr (0, [.ref aCr])), (aCr, .inl (K 0, 55, .inl row)), (aL, .inr (3, [.ref aLc, .int lL_7])), (aLc, .inl (K 4, 32, .inl lC_7))] H → va_D A [(aC, .inr (0, [.ref aCr])), (aCr, .inl (K 0, 55, .inl row)), (aL, .inr (3, [.ref aLc, .int lL_7])), (aLc, .inl (K 4, 32, .inl lC_7))] → va_S A s.heap H locs → ∀ ls : Array Slot, lv_has ls 4 [(0, .ref aL), (1, .ref aC), (2, .int y7_2)] → W p l e RM_X4_writeHeights s m args below meth c H locs 0 0 (MQ below (QV D (TY K) (wf_X4_writeHeights K aC aCr aL aLc row) v A) args s MC_X4_writeHeights MS_X4_writeHeights A) (F0 m 7 ls []) := by
    intro  n
    induction n with
    | zero =>
      intro y7_2 lL_7 lC_7 hF
      exact nomatch hF
    | succ n ih =>
      intro y7_2 lL_7 lC_7 hF H locs hP hD hS ls hl
      rw [f_X4_writeHeights_L7.eq_2] at hF
      refine lv_iload_n hx hb dX4_writeHeights_7 rfl (lv_at hl 2 rfl) ?_
      refine lv_bipush (v := (9 : Int32)) hx hb dX4_writeHeights_8 (by decide) ?_
      refine lv_icmp_gt (tgt := 43) hx hb dX4_writeHeights_10 (by decide) (fun c1 => ?_) (fun c1 => ?_)
      · have hF := oT c1 hF
        exact fin_v (u := (lL_7, lC_7)) hF hx hb hr hlocks hK hP hD hS (Nat.le_of_ble_eq_true rfl) (Nat.le_of_ble_eq_true rfl) dX4_writeHeights_43
      · have hF := oF c1 hF
        refine lv_aload_n hx hb dX4_writeHeights_13 rfl (lv_at hl 1 rfl) ?_
        refine lv_iload_n hx hb dX4_writeHeights_14 rfl (lv_at hl 2 rfl) ?_
        obtain ⟨v2, hv2, hF⟩ := oB hF
        refine call_i (wr := [(aL, .inr (3, [.ref aLc, .int lL_7])), (aLc, .inl (K 4, 32, .inl lC_7))]) (wn := [(aC, .inr (0, [.ref aCr])), (aCr, .inl (K 0, 55, .inl row)), (aL, .inr (3, [.ref aLc, .int lL_7])), (aLc, .inl (K 4, 32, .inl lC_7))]) (va_runV (As := [.int y7_2]) (rest := []) ⟨hx, hb, hml, hown, hts⟩ (c_X0_ownerOf l D K aC aCr row y7_2 v2 hv2 H.size) (cwV 1 hts gX4_writeHeights_X0_ownerOf rfl rfl rfl (by decide +kernel) ⟨(Nat.le_of_ble_eq_true rfl), (Nat.le_of_ble_eq_true rfl)⟩) (prV hE hK hP hD hS hA [0, 1] rfl rfl 0 0 rfl rfl rfl) rfl rfl hl.1 rfl (lv_room (Nat.le_of_ble_eq_true rfl)) dX4_writeHeights_15 ⟨(Nat.le_of_ble_eq_true rfl), (Nat.le_of_ble_eq_true rfl)⟩) hP hD hS hA [0, 1] [2, 3] [2, 3, 0, 1] rfl rfl rfl (by decide) rfl rfl (fun H locs hP hD hS => ?_)
        refine lv_istore_n (lv' := [(3, .int v2.1), (0, .ref aL), (1, .ref aC), (2, .int y7_2)]) hx hb dX4_writeHeights_18 rfl hl (by decide) rfl (fun ls hl => ?_)
        refine lv_aload_n hx hb dX4_writeHeights_19 rfl (lv_at hl 1 rfl) ?_
        refine lv_iload_n hx hb dX4_writeHeights_20 rfl (lv_at hl 0 rfl) ?_
        refine lv_iconst (v := (-1 : Int32)) hx hb dX4_writeHeights_21 (by decide) ?_
        refine lv_icmp_ne (tgt := 30) hx hb dX4_writeHeights_22 (by decide) (fun c3 => ?_) (fun c3 => ?_)
        · have hF := oF c3 hF
          refine lv_iload_n hx hb dX4_writeHeights_30 rfl (lv_at hl 0 rfl) ?_
          obtain ⟨v4, hv4, hF⟩ := oB hF
          refine call_i (wr := [(aC, .inr (0, [.ref aCr])), (aCr, .inl (K 0, 55, .inl row)), (aL, .inr (3, [.ref aLc, .int lL_7])), (aLc, .inl (K 4, 32, .inl lC_7))]) (wn := [(aC, .inr (0, [.ref aCr])), (aCr, .inl (K 0, 55, .inl row)), (aL, .inr (3, [.ref aLc, .int lL_7])), (aLc, .inl (K 4, 32, .inl lC_7))]) (va_runS (As := [.int v2.1]) (rest := [.ref aL]) ⟨hx, hb, hml, hown, hts⟩ (c_X4_digit l D K v2.1 v4 hv4 H.size) (va_cwS 1 hts gX4_writeHeights_X4_digit rfl rfl rfl (by decide +kernel) ⟨(Nat.le_of_ble_eq_true rfl), (Nat.le_of_ble_eq_true rfl)⟩) (prS hE hK hP hD hS hA [] rfl rfl) rfl rfl hl.1 rfl (lv_room (Nat.le_of_ble_eq_true rfl)) dX4_writeHeights_31 ⟨(Nat.le_of_ble_eq_true rfl), (Nat.le_of_ble_eq_true rfl)⟩) hP hD hS hA [] [0, 1, 2, 3] [0, 1, 2, 3] rfl rfl rfl (by decide) rfl rfl (fun H locs hP hD hS => ?_)
          obtain ⟨v5, hv5, hF⟩ := oB hF
          refine call_v (wr := [(aC, .inr (0, [.ref aCr])), (aCr, .inl (K 0, 55, .inl row))]) (wn := [(aC, .inr (0, [.ref aCr])), (aCr, .inl (K 0, 55, .inl row)), (aL, .inr (3, [.ref aLc, .int v5.1])), (aLc, .inl (K 4, 32, .inl v5.2))]) (va_runV (As := [.int v4.1]) (rest := []) ⟨hx, hb, hml, hown, hts⟩ (c_X4_add l D K aL aLc lL_7 lC_7 v4.1 v5 hv5 H.size) (cwV 1 hts gX4_writeHeights_X4_add rfl rfl rfl (by decide +kernel) ⟨(Nat.le_of_ble_eq_true rfl), (Nat.le_of_ble_eq_true rfl)⟩) (prV hE hK hP hD hS hA [2, 3] rfl rfl 3 2 rfl rfl rfl) rfl rfl hl.1 rfl (lv_room (Nat.le_of_ble_eq_true rfl)) dX4_writeHeights_34 ⟨(Nat.le_of_ble_eq_true rfl), (Nat.le_of_ble_eq_true rfl)⟩) hP hD hS hA [2, 3] [0, 1] [0, 1, 2, 3] rfl rfl rfl (by decide) rfl rfl (fun H locs hP hD hS => ?_)
          refine lv_iinc (v := y7_2 + (1 : Int32)) (lv' := [(2, .int (y7_2 + (1 : Int32))), (3, .int v2.1), (0, .ref aL), (1, .ref aC)]) hx hb dX4_writeHeights_37 hl (k := 3) rfl (by first | rfl | decide) (by decide) rfl (fun ls hl => ?_)
          refine lv_goto (tgt := 7) hx hb dX4_writeHeights_40 (by decide) ?_
          exact ih (y7_2 + (1 : Int32)) v5.1 v5.2 hF _ _ hP hD hS _ (lv_sub hl [2, 3, 0] rfl)
        · have hF := oT c3 hF
          refine lv_bipush (v := (46 : Int32)) hx hb dX4_writeHeights_25 (by decide) ?_
          refine lv_goto (tgt := 34) hx hb dX4_writeHeights_27 (by decide) ?_
          obtain ⟨v6, hv6, hF⟩ := oB hF
          refine call_v (wr := [(aC, .inr (0, [.ref aCr])), (aCr, .inl (K 0, 55, .inl row))]) (wn := [(aC, .inr (0, [.ref aCr])), (aCr, .inl (K 0, 55, .inl row)), (aL, .inr (3, [.ref aLc, .int v6.1])), (aLc, .inl (K 4, 32, .inl v6.2))]) (va_runV (As := [.int (46 : Int32)]) (rest := []) ⟨hx, hb, hml, hown, hts⟩ (c_X4_add l D K aL aLc lL_7 lC_7 (46 : Int32) v6 hv6 H.size) (cwV 1 hts gX4_writeHeights_X4_add rfl rfl rfl (by decide +kernel) ⟨(Nat.le_of_ble_eq_true rfl), (Nat.le_of_ble_eq_true rfl)⟩) (prV hE hK hP hD hS hA [2, 3] rfl rfl 3 2 rfl rfl rfl) rfl rfl hl.1 rfl (lv_room (Nat.le_of_ble_eq_true rfl)) dX4_writeHeights_34 ⟨(Nat.le_of_ble_eq_true rfl), (Nat.le_of_ble_eq_true rfl)⟩) hP hD hS hA [2, 3] [0, 1] [0, 1, 2, 3] rfl rfl rfl (by decide) rfl rfl (fun H locs hP hD hS => ?_)
          refine lv_iinc (v := y7_2 + (1 : Int32)) (lv' := [(2, .int (y7_2 + (1 : Int32))), (3, .int v2.1), (0, .ref aL), (1, .ref aC)]) hx hb dX4_writeHeights_37 hl (k := 3) rfl (by first | rfl | decide) (by decide) rfl (fun ls hl => ?_)
          refine lv_goto (tgt := 7) hx hb dX4_writeHeights_40 (by decide) ?_
          exact ih (y7_2 + (1 : Int32)) v6.1 v6.2 hF _ _ hP hD hS _ (lv_sub hl [2, 3, 0] rfl)
  rw [f_X4_writeHeights] at hF
  refine lv_aload_n hx hb dX4_writeHeights_0 rfl (lv_at hl 0 rfl) ?_
  refine lv_iconst (v := (0 : Int32)) hx hb dX4_writeHeights_1 (by decide) ?_
  refine va_put (D := D) (ci := 3) (v := .int (0 : Int32)) (ty := .int) (C := RX4) (T := TX4) (N := 2) hx hb hts (fun _ h => List.mem_cons_of_mem _ (List.mem_append_left _ (List.mem_append_left _ (List.mem_append_right _ h)))) tyX4 tyX4_ok nmX4 hown hK hP hD hS 2 rfl rfl 1 (by decide) (hts (.fieldLink RX4 15 "BarometerClub$Line" "length" "I") (List.mem_of_getElem? (i := 1) rfl)) (fun _ h9 => h9) rfl (by decide +kernel) rfl rfl (Nat.le_of_ble_eq_true rfl) dX4_writeHeights_2 (fun H locs hP hD hS => ?_)
  have hP : va_P D vwC7 [(aC, .inr (0, [.ref aCr])), (aCr, .inl (K 0, 55, .inl row)), (aL, .inr (3, [.ref aLc, .int (0 : Int32)])), (aLc, .inl (K 4, 32, .inl lC))] H := hP
  have hD : va_D A [(aC, .inr (0, [.ref aCr])), (aCr, .inl (K 0, 55, .inl row)), (aL, .inr (3, [.ref aLc, .int (0 : Int32)])), (aLc, .inl (K 4, 32, .inl lC))] := hD
  refine lv_iconst (v := (0 : Int32)) hx hb dX4_writeHeights_5 (by decide) ?_
  refine lv_istore_n (lv' := [(2, .int (0 : Int32)), (0, .ref aL), (1, .ref aC)]) hx hb dX4_writeHeights_6 rfl hl (by decide) rfl (fun ls hl => ?_)
  exact loop_7  FU (0 : Int32) (0 : Int32) lC hF _ _ hP hD hS _ (lv_sub hl [1, 2, 0] rfl)
