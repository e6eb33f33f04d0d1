abbrev RM_X0_get : Room := { frames := 0, cells := 0, slots := 0, locals := 0 }
abbrev MC_X0_get : Nat := 0
abbrev MS_X0_get : Nat := 0
abbrev wf_X0_get (K : Nat → ClassId) (aC : Nat) (aCr : Nat) (row : Nat → Int32) (v : Int32 × Unit) : va_W := [(aC, .inr (0, [.ref aCr])), (aCr, .inl (K 0, 55, .inl row))]
set_option maxHeartbeats 4000000 in
set_option maxRecDepth 100000 in
theorem c_X0_get (l : Launch) (D : va_G) (K : Nat → ClassId) (aC : Nat) (aCr : Nat) (row : Nat → Int32) (p1 : Int32) (v : Int32 × Unit) (hF : f_X0_get row p1 = some v) (sz : Nat) :
    (Met l yX0_get wsX0_get RM_X0_get (PC D (TY K) [(aC, .inr (0, [.ref aCr])), (aCr, .inl (K 0, 55, .inl row))] [.ref aC, .int p1] sz) (QI D (TY K) (wf_X0_get K aC aCr row) v (va_A [(aC, .inr (0, [.ref aCr])), (aCr, .inl (K 0, 55, .inl row))] sz)) MC_X0_get MS_X0_get (va_A [(aC, .inr (0, [.ref aCr])), (aCr, .inl (K 0, 55, .inl row))] sz)) := by
  refine pro (Qf := fun A => QI D (TY K) (wf_X0_get K aC aCr row) v A) (cc := cX0_get) (maxL := 2) (ret := (some .int)) (by decide +kernel) rfl (Nat.le_of_ble_eq_true rfl) ?_
  intro p e s m args below meth c hx hb hr hts hown hlocks hml hini hK A hA hE hP hD hS ls hl
  have hown : s.vm.findClass RX0 = some m.cls := hown
  have hl : lv_has ls 2 [(0, .ref aC), (1, .int p1)] := hl
  rw [f_X0_get] at hF
  refine lv_iload_n hx hb dX0_get_0 rfl (lv_at hl 1 rfl) ?_
  refine lv_if_lt (tgt := 19) hx hb dX0_get_1 (by decide) (fun c1 => ?_) (fun c1 => ?_)
  · have hF := oT c1 hF
    refine lv_iconst (v := (0 : Int32)) hx hb dX0_get_19 (by decide) ?_
    exact fin_i (u := ((0 : Int32), ())) hF hx hb hr hlocks hK hP hD hS (Nat.le_of_ble_eq_true rfl) (Nat.le_of_ble_eq_true rfl) dX0_get_20
  · have hF := oF c1 hF
    refine lv_iload_n hx hb dX0_get_4 rfl (lv_at hl 1 rfl) ?_
    refine lv_bipush (v := (13 : Int32)) hx hb dX0_get_5 (by decide) ?_
    refine lv_icmp_ge (tgt := 19) hx hb dX0_get_7 (by decide) (fun c2 => ?_) (fun c2 => ?_)
    · have hF := oT c2 hF
      refine lv_iconst (v := (0 : Int32)) hx hb dX0_get_19 (by decide) ?_
      exact fin_i (u := ((0 : Int32), ())) hF hx hb hr hlocks hK hP hD hS (Nat.le_of_ble_eq_true rfl) (Nat.le_of_ble_eq_true rfl) dX0_get_20
    · have hF := oF c2 hF
      refine lv_aload_n hx hb dX0_get_10 rfl (lv_at hl 0 rfl) ?_
      refine va_get (D := D) (ci := 0) (v := .ref aCr) (C := RX0) (T := TX0) (N := 1) hx hb hts (fun _ h => List.mem_cons_of_mem _ (List.mem_append_left _ (List.mem_append_right _ h))) hown hK hP 0 rfl rfl 0 (by decide) (hts (.fieldLink RX0 11 "BarometerClub$Club" "row" "[I") (List.mem_of_getElem? (i := 1) rfl)) (fun _ h9 => h9) rfl dX0_get_11 ?_
      refine lv_iload_n hx hb dX0_get_14 rfl (lv_at hl 1 rfl) ?_
      obtain ⟨g3, hF⟩ := oG hF
      refine va_iald hx hb hK hP 1 0 rfl rfl (inB_in g3) dX0_get_15 ?_
      refine lv_goto (tgt := 20) hx hb dX0_get_16 (by decide) ?_
      exact fin_i (u := (row p1.toNatClampNeg, ())) hF hx hb hr hlocks hK hP hD hS (Nat.le_of_ble_eq_true rfl) (Nat.le_of_ble_eq_true rfl) dX0_get_20
abbrev RM_X0_set : Room := { frames := 0, cells := 0, slots := 0, locals := 0 }
abbrev MC_X0_set : Nat := 0
abbrev MS_X0_set : Nat := 0
abbrev wf_X0_set (K : Nat → ClassId) (aC : Nat) (aCr : Nat)  (v : (Nat → Int32)) : va_W := [(aC, .inr (0, [.ref aCr])), (aCr, .inl (K 0, 55, .inl v))]
set_option maxHeartbeats 4000000 in
set_option maxRecDepth 100000 in
theorem c_X0_set (l : Launch) (D : va_G) (K : Nat → ClassId) (aC : Nat) (aCr : Nat) (row : Nat → Int32) (p1 : Int32) (p2 : Int32) (v : (Nat → Int32)) (hF : f_X0_set row p1 p2 = some v) (sz : Nat) :
    (Met l yX0_set wsX0_set RM_X0_set (PC D (TY K) [(aC, .inr (0, [.ref aCr])), (aCr, .inl (K 0, 55, .inl row))] [.ref aC, .int p1, .int p2] sz) (QV D (TY K) (wf_X0_set K aC aCr) v (va_A [(aC, .inr (0, [.ref aCr])), (aCr, .inl (K 0, 55, .inl row))] sz)) MC_X0_set MS_X0_set (va_A [(aC, .inr (0, [.ref aCr])), (aCr, .inl (K 0, 55, .inl row))] sz)) := by
  refine pro (Qf := fun A => QV D (TY K) (wf_X0_set K aC aCr) v A) (cc := cX0_set) (maxL := 3) (ret := none) (by decide +kernel) rfl (Nat.le_of_ble_eq_true rfl) ?_
  intro p e s m args below meth c hx hb hr hts hown hlocks hml hini hK A hA hE hP hD hS ls hl
  have hown : s.vm.findClass RX0 = some m.cls := hown
  have hl : lv_has ls 3 [(0, .ref aC), (1, .int p1), (2, .int p2)] := hl
  rw [f_X0_set] at hF
  refine lv_iload_n hx hb dX0_set_0 rfl (lv_at hl 1 rfl) ?_
  refine lv_if_lt (tgt := 17) hx hb dX0_set_1 (by decide) (fun c1 => ?_) (fun c1 => ?_)
  · have hF := oT c1 hF
    exact fin_v (u := row) hF hx hb hr hlocks hK hP hD hS (Nat.le_of_ble_eq_true rfl) (Nat.le_of_ble_eq_true rfl) dX0_set_17
  · have hF := oF c1 hF
    refine lv_iload_n hx hb dX0_set_4 rfl (lv_at hl 1 rfl) ?_
    refine lv_bipush (v := (13 : Int32)) hx hb dX0_set_5 (by decide) ?_
    refine lv_icmp_ge (tgt := 17) hx hb dX0_set_7 (by decide) (fun c2 => ?_) (fun c2 => ?_)
    · have hF := oT c2 hF
      exact fin_v (u := row) hF hx hb hr hlocks hK hP hD hS (Nat.le_of_ble_eq_true rfl) (Nat.le_of_ble_eq_true rfl) dX0_set_17
    · have hF := oF c2 hF
      refine lv_aload_n hx hb dX0_set_10 rfl (lv_at hl 0 rfl) ?_
      refine va_get (D := D) (ci := 0) (v := .ref aCr) (C := RX0) (T := TX0) (N := 1) hx hb hts (fun _ h => List.mem_cons_of_mem _ (List.mem_append_left _ (List.mem_append_right _ h))) hown hK hP 0 rfl rfl 0 (by decide) (hts (.fieldLink RX0 11 "BarometerClub$Club" "row" "[I") (List.mem_of_getElem? (i := 1) rfl)) (fun _ h9 => h9) rfl dX0_set_11 ?_
      refine lv_iload_n hx hb dX0_set_14 rfl (lv_at hl 1 rfl) ?_
      refine lv_iload_n hx hb dX0_set_15 rfl (lv_at hl 2 rfl) ?_
      obtain ⟨g3, hF⟩ := oG hF
      refine va_iast hx hb hK hP hD hS 1 0 rfl rfl (inB_in g3) dX0_set_16 (fun H locs hP hD hS => ?_)
      have hP : va_P D vwC7 [(aC, .inr (0, [.ref aCr])), (aCr, .inl (K 0, 55, .inl (upd row p1.toNatClampNeg p2)))] H := hP
      have hD : va_D A [(aC, .inr (0, [.ref aCr])), (aCr, .inl (K 0, 55, .inl (upd row p1.toNatClampNeg p2)))] := hD
      exact fin_v (u := upd row p1.toNatClampNeg p2) hF hx hb hr hlocks hK hP hD hS (Nat.le_of_ble_eq_true rfl) (Nat.le_of_ble_eq_true rfl) dX0_set_17
abbrev RM_X0_add : Room := { frames := 1, cells := 0, slots := 0, locals := 22 }
abbrev MC_X0_add : Nat := 0
abbrev MS_X0_add : Nat := 0
abbrev wf_X0_add (K : Nat → ClassId) (aC : Nat) (aCr : Nat)  (v : (Nat → Int32)) : va_W := [(aC, .inr (0, [.ref aCr])), (aCr, .inl (K 0, 55, .inl v))]
set_option maxHeartbeats 4000000 in
set_option maxRecDepth 100000 in
theorem c_X0_add (l : Launch) (D : va_G) (K : Nat → ClassId) (aC : Nat) (aCr : Nat) (row : Nat → Int32) (p1 : Int32) (p2 : Int32) (v : (Nat → Int32)) (hF : f_X0_add row p1 p2 = some v) (sz : Nat) :
    (Met l yX0_add wsX0_add RM_X0_add (PC D (TY K) [(aC, .inr (0, [.ref aCr])), (aCr, .inl (K 0, 55, .inl row))] [.ref aC, .int p1, .int p2] sz) (QV D (TY K) (wf_X0_add K aC aCr) v (va_A [(aC, .inr (0, [.ref aCr])), (aCr, .inl (K 0, 55, .inl row))] sz)) MC_X0_add MS_X0_add (va_A [(aC, .inr (0, [.ref aCr])), (aCr, .inl (K 0, 55, .inl row))] sz)) := by
  refine pro (Qf := fun A => QV D (TY K) (wf_X0_add K aC aCr) v A) (cc := cX0_add) (maxL := 3) (ret := none) (by decide +kernel) rfl (Nat.le_of_ble_eq_true rfl) ?_
  intro p e s m args below meth c hx hb hr hts hown hlocks hml hini hK A hA hE hP hD hS ls hl
  have hown : s.vm.findClass RX0 = some m.cls := hown
  have hl : lv_has ls 3 [(0, .ref aC), (1, .int p1), (2, .int p2)] := hl
  rw [f_X0_add] at hF
  refine lv_aload_n hx hb dX0_add_0 rfl (lv_at hl 0 rfl) ?_
  refine lv_iload_n hx hb dX0_add_1 rfl (lv_at hl 1 rfl) ?_
  refine lv_aload_n hx hb dX0_add_2 rfl (lv_at hl 0 rfl) ?_
  refine lv_iload_n hx hb dX0_add_3 rfl (lv_at hl 1 rfl) ?_
  obtain ⟨v1, hv1, hF⟩ := oB hF
  refine call_i (wr := []) (wn := [(aC, .inr (0, [.ref aCr])), (aCr, .inl (K 0, 55, .inl row))]) (va_runV (As := [.int p1]) (rest := [.int p1, .ref aC]) ⟨hx, hb, hml, hown, hts⟩ (c_X0_get l D K aC aCr row p1 v1 hv1 s.heap.size) (cwV 1 hts gX0_add_X0_get rfl rfl rfl (by decide +kernel) ⟨(Nat.le_of_ble_eq_true rfl), (Nat.le_of_ble_eq_true rfl)⟩) (prV hE hK hP hD hS hA [0, 1] rfl rfl 0 0 rfl rfl rfl) rfl rfl hl.1 rfl (lv_room (Nat.le_of_ble_eq_true rfl)) dX0_add_4 ⟨(Nat.le_of_ble_eq_true rfl), (Nat.le_of_ble_eq_true rfl)⟩) hP hD hS hA [0, 1] [] [0, 1] rfl rfl rfl (by decide) rfl rfl (fun H locs hP hD hS => ?_)
  refine lv_iload_n hx hb dX0_add_7 rfl (lv_at hl 2 rfl) ?_
  refine lv_iadd hx hb dX0_add_8 ?_
  obtain ⟨v2, hv2, hF⟩ := oB hF
  refine call_v (wr := []) (wn := [(aC, .inr (0, [.ref aCr])), (aCr, .inl (K 0, 55, .inl v2))]) (va_runV (As := [.int p1, .int (v1.1 + p2)]) (rest := []) ⟨hx, hb, hml, hown, hts⟩ (c_X0_set l D K aC aCr row p1 (v1.1 + p2) v2 hv2 H.size) (cwV 2 hts gX0_add_X0_set rfl rfl rfl (by decide +kernel) ⟨(Nat.le_of_ble_eq_true rfl), (Nat.le_of_ble_eq_true rfl)⟩) (prV hE hK hP hD hS hA [0, 1] rfl rfl 0 0 rfl rfl rfl) rfl rfl hl.1 rfl (lv_room (Nat.le_of_ble_eq_true rfl)) dX0_add_9 ⟨(Nat.le_of_ble_eq_true rfl), (Nat.le_of_ble_eq_true rfl)⟩) hP hD hS hA [0, 1] [] [0, 1] rfl rfl rfl (by decide) rfl rfl (fun H locs hP hD hS => ?_)
  exact fin_v (u := v2) hF hx hb hr hlocks hK hP hD hS (Nat.le_of_ble_eq_true rfl) (Nat.le_of_ble_eq_true rfl) dX0_add_12
abbrev RM_X0_of : Room := { frames := 0, cells := 0, slots := 0, locals := 0 }
abbrev MC_X0_of : Nat := 0
abbrev MS_X0_of : Nat := 0
abbrev wf_X0_of (K : Nat → ClassId) (aC : Nat) (aCr : Nat) (row : Nat → Int32) (v : Int32 × Unit) : va_W := [(aC, .inr (0, [.ref aCr])), (aCr, .inl (K 0, 55, .inl row))]
set_option maxHeartbeats 4000000 in
set_option maxRecDepth 100000 in
theorem c_X0_of (l : Launch) (D : va_G) (K : Nat → ClassId) (aC : Nat) (aCr : Nat) (row : Nat → Int32) (p1 : Int32) (p2 : Int32) (v : Int32 × Unit) (hF : f_X0_of row p1 p2 = some v) (sz : Nat) :
    (Met l yX0_of wsX0_of RM_X0_of (PC D (TY K) [(aC, .inr (0, [.ref aCr])), (aCr, .inl (K 0, 55, .inl row))] [.ref aC, .int p1, .int p2] sz) (QI D (TY K) (wf_X0_of K aC aCr row) v (va_A [(aC, .inr (0, [.ref aCr])), (aCr, .inl (K 0, 55, .inl row))] sz)) MC_X0_of MS_X0_of (va_A [(aC, .inr (0, [.ref aCr])), (aCr, .inl (K 0, 55, .inl row))] sz)) := by
  refine pro (Qf := fun A => QI D (TY K) (wf_X0_of K aC aCr row) v A) (cc := cX0_of) (maxL := 4) (ret := (some .int)) (by decide +kernel) rfl (Nat.le_of_ble_eq_true rfl) ?_
  intro p e s m args below meth c hx hb hr hts hown hlocks hml hini hK A hA hE hP hD hS ls hl
  have hown : s.vm.findClass RX0 = some m.cls := hown
  have hl : lv_has ls 4 [(0, .ref aC), (1, .int p1), (2, .int p2)] := hl
  rw [f_X0_of] at hF
  refine lv_iload_n hx hb dX0_of_0 rfl (lv_at hl 1 rfl) ?_
  refine lv_if_lt (tgt := 24) hx hb dX0_of_1 (by decide) (fun c1 => ?_) (fun c1 => ?_)
  · have hF := oT c1 hF
    refine lv_iconst (v := (0 : Int32)) hx hb dX0_of_24 (by decide) ?_
    refine lv_istore_n (lv' := [(3, .int (0 : Int32)), (0, .ref aC), (1, .int p1), (2, .int p2)]) hx hb dX0_of_25 rfl hl (by decide) rfl (fun ls hl => ?_)
    refine lv_iload_n hx hb dX0_of_26 rfl (lv_at hl 0 rfl) ?_
    refine lv_if_eq (tgt := 47) hx hb dX0_of_27 (by decide) (fun _ => ?_) (fun c9 => absurd (by decide) c9)
    refine lv_iconst (v := (0 : Int32)) hx hb dX0_of_47 (by decide) ?_
    exact fin_i (u := ((0 : Int32), ())) hF hx hb hr hlocks hK hP hD hS (Nat.le_of_ble_eq_true rfl) (Nat.le_of_ble_eq_true rfl) dX0_of_48
  · have hF := oF c1 hF
    refine lv_iload_n hx hb dX0_of_4 rfl (lv_at hl 1 rfl) ?_
    refine lv_bipush (v := (6 : Int32)) hx hb dX0_of_5 (by decide) ?_
    refine lv_icmp_ge (tgt := 24) hx hb dX0_of_7 (by decide) (fun c3 => ?_) (fun c3 => ?_)
    · have hF := oT c3 hF
      refine lv_iconst (v := (0 : Int32)) hx hb dX0_of_24 (by decide) ?_
      refine lv_istore_n (lv' := [(3, .int (0 : Int32)), (0, .ref aC), (1, .int p1), (2, .int p2)]) hx hb dX0_of_25 rfl hl (by decide) rfl (fun ls hl => ?_)
      refine lv_iload_n hx hb dX0_of_26 rfl (lv_at hl 0 rfl) ?_
      refine lv_if_eq (tgt := 47) hx hb dX0_of_27 (by decide) (fun _ => ?_) (fun c9 => absurd (by decide) c9)
      refine lv_iconst (v := (0 : Int32)) hx hb dX0_of_47 (by decide) ?_
      exact fin_i (u := ((0 : Int32), ())) hF hx hb hr hlocks hK hP hD hS (Nat.le_of_ble_eq_true rfl) (Nat.le_of_ble_eq_true rfl) dX0_of_48
    · have hF := oF c3 hF
      refine lv_iload_n hx hb dX0_of_10 rfl (lv_at hl 2 rfl) ?_
      refine lv_if_lt (tgt := 24) hx hb dX0_of_11 (by decide) (fun c5 => ?_) (fun c5 => ?_)
      · have hF := oT c5 hF
        refine lv_iconst (v := (0 : Int32)) hx hb dX0_of_24 (by decide) ?_
        refine lv_istore_n (lv' := [(3, .int (0 : Int32)), (0, .ref aC), (1, .int p1), (2, .int p2)]) hx hb dX0_of_25 rfl hl (by decide) rfl (fun ls hl => ?_)
        refine lv_iload_n hx hb dX0_of_26 rfl (lv_at hl 0 rfl) ?_
        refine lv_if_eq (tgt := 47) hx hb dX0_of_27 (by decide) (fun _ => ?_) (fun c9 => absurd (by decide) c9)
        refine lv_iconst (v := (0 : Int32)) hx hb dX0_of_47 (by decide) ?_
        exact fin_i (u := ((0 : Int32), ())) hF hx hb hr hlocks hK hP hD hS (Nat.le_of_ble_eq_true rfl) (Nat.le_of_ble_eq_true rfl) dX0_of_48
      · have hF := oF c5 hF
        refine lv_iload_n hx hb dX0_of_14 rfl (lv_at hl 2 rfl) ?_
        refine lv_bipush (v := (7 : Int32)) hx hb dX0_of_15 (by decide) ?_
        refine lv_icmp_ge (tgt := 24) hx hb dX0_of_17 (by decide) (fun c7 => ?_) (fun c7 => ?_)
        · have hF := oT c7 hF
          refine lv_iconst (v := (0 : Int32)) hx hb dX0_of_24 (by decide) ?_
          refine lv_istore_n (lv' := [(3, .int (0 : Int32)), (0, .ref aC), (1, .int p1), (2, .int p2)]) hx hb dX0_of_25 rfl hl (by decide) rfl (fun ls hl => ?_)
          refine lv_iload_n hx hb dX0_of_26 rfl (lv_at hl 0 rfl) ?_
          refine lv_if_eq (tgt := 47) hx hb dX0_of_27 (by decide) (fun _ => ?_) (fun c9 => absurd (by decide) c9)
          refine lv_iconst (v := (0 : Int32)) hx hb dX0_of_47 (by decide) ?_
          exact fin_i (u := ((0 : Int32), ())) hF hx hb hr hlocks hK hP hD hS (Nat.le_of_ble_eq_true rfl) (Nat.le_of_ble_eq_true rfl) dX0_of_48
        · have hF := oF c7 hF
          refine lv_iconst (v := (1 : Int32)) hx hb dX0_of_20 (by decide) ?_
          refine lv_goto (tgt := 25) hx hb dX0_of_21 (by decide) ?_
          refine lv_istore_n (lv' := [(3, .int (1 : Int32)), (0, .ref aC), (1, .int p1), (2, .int p2)]) hx hb dX0_of_25 rfl hl (by decide) rfl (fun ls hl => ?_)
          refine lv_iload_n hx hb dX0_of_26 rfl (lv_at hl 0 rfl) ?_
          refine lv_if_eq (tgt := 47) hx hb dX0_of_27 (by decide) (fun c9 => absurd c9 (by decide)) (fun _ => ?_)
          refine lv_aload_n hx hb dX0_of_30 rfl (lv_at hl 1 rfl) ?_
          refine va_get (D := D) (ci := 0) (v := .ref aCr) (C := RX0) (T := TX0) (N := 1) hx hb hts (fun _ h => List.mem_cons_of_mem _ (List.mem_append_left _ (List.mem_append_right _ h))) hown hK hP 0 rfl rfl 0 (by decide) (hts (.fieldLink RX0 11 "BarometerClub$Club" "row" "[I") (List.mem_of_getElem? (i := 1) rfl)) (fun _ h9 => h9) rfl dX0_of_31 ?_
          refine lv_bipush (v := (13 : Int32)) hx hb dX0_of_34 (by decide) ?_
          refine lv_iload_n hx hb dX0_of_36 rfl (lv_at hl 2 rfl) ?_
          refine lv_bipush (v := (7 : Int32)) hx hb dX0_of_37 (by decide) ?_
          refine lv_imul hx hb dX0_of_39 ?_
          refine lv_iadd hx hb dX0_of_40 ?_
          refine lv_iload_n hx hb dX0_of_41 rfl (lv_at hl 3 rfl) ?_
          refine lv_iadd hx hb dX0_of_42 ?_
          obtain ⟨g10, hF⟩ := oG hF
          refine va_iald hx hb hK hP 1 0 rfl rfl (inB_in g10) dX0_of_43 ?_
          refine lv_goto (tgt := 48) hx hb dX0_of_44 (by decide) ?_
          exact fin_i (u := (row (((13 : Int32) + (p1 * (7 : Int32))) + p2).toNatClampNeg, ())) hF hx hb hr hlocks hK hP hD hS (Nat.le_of_ble_eq_true rfl) (Nat.le_of_ble_eq_true rfl) dX0_of_48
abbrev RM_X0_setOf : Room := { frames := 0, cells := 0, slots := 0, locals := 0 }
abbrev MC_X0_setOf : Nat := 0
abbrev MS_X0_setOf : Nat := 0
abbrev wf_X0_setOf (K : Nat → ClassId) (aC : Nat) (aCr : Nat)  (v : (Nat → Int32)) : va_W := [(aC, .inr (0, [.ref aCr])), (aCr, .inl (K 0, 55, .inl v))]
set_option maxHeartbeats 4000000 in
set_option maxRecDepth 100000 in
theorem c_X0_setOf (l : Launch) (D : va_G) (K : Nat → ClassId) (aC : Nat) (aCr : Nat) (row : Nat → Int32) (p1 : Int32) (p2 : Int32) (p3 : Int32) (v : (Nat → Int32)) (hF : f_X0_setOf row p1 p2 p3 = some v) (sz : Nat) :
    (Met l yX0_setOf wsX0_setOf RM_X0_setOf (PC D (TY K) [(aC, .inr (0, [.ref aCr])), (aCr, .inl (K 0, 55, .inl row))] [.ref aC, .int p1, .int p2, .int p3] sz) (QV D (TY K) (wf_X0_setOf K aC aCr) v (va_A [(aC, .inr (0, [.ref aCr])), (aCr, .inl (K 0, 55, .inl row))] sz)) MC_X0_setOf MS_X0_setOf (va_A [(aC, .inr (0, [.ref aCr])), (aCr, .inl (K 0, 55, .inl row))] sz)) := by
  refine pro (Qf := fun A => QV D (TY K) (wf_X0_setOf K aC aCr) v A) (cc := cX0_setOf) (maxL := 4) (ret := none) (by decide +kernel) rfl (Nat.le_of_ble_eq_true rfl) ?_
  intro p e s m args below meth c hx hb hr hts hown hlocks hml hini hK A hA hE hP hD hS ls hl
  have hown : s.vm.findClass RX0 = some m.cls := hown
  have hl : lv_has ls 4 [(0, .ref aC), (1, .int p1), (2, .int p2), (3, .int p3)] := hl
  rw [f_X0_setOf] at hF
  refine lv_iload_n hx hb dX0_setOf_0 rfl (lv_at hl 1 rfl) ?_
  refine lv_if_lt (tgt := 35) hx hb dX0_setOf_1 (by decide) (fun c1 => ?_) (fun c1 => ?_)
  · have hF := oT c1 hF
    exact fin_v (u := row) hF hx hb hr hlocks hK hP hD hS (Nat.le_of_ble_eq_true rfl) (Nat.le_of_ble_eq_true rfl) dX0_setOf_35
  · have hF := oF c1 hF
    refine lv_iload_n hx hb dX0_setOf_4 rfl (lv_at hl 1 rfl) ?_
    refine lv_bipush (v := (6 : Int32)) hx hb dX0_setOf_5 (by decide) ?_
    refine lv_icmp_ge (tgt := 35) hx hb dX0_setOf_7 (by decide) (fun c2 => ?_) (fun c2 => ?_)
    · have hF := oT c2 hF
      exact fin_v (u := row) hF hx hb hr hlocks hK hP hD hS (Nat.le_of_ble_eq_true rfl) (Nat.le_of_ble_eq_true rfl) dX0_setOf_35
    · have hF := oF c2 hF
      refine lv_iload_n hx hb dX0_setOf_10 rfl (lv_at hl 2 rfl) ?_
      refine lv_if_lt (tgt := 35) hx hb dX0_setOf_11 (by decide) (fun c3 => ?_) (fun c3 => ?_)
      · have hF := oT c3 hF
        exact fin_v (u := row) hF hx hb hr hlocks hK hP hD hS (Nat.le_of_ble_eq_true rfl) (Nat.le_of_ble_eq_true rfl) dX0_setOf_35
      · have hF := oF c3 hF
        refine lv_iload_n hx hb dX0_setOf_14 rfl (lv_at hl 2 rfl) ?_
        refine lv_bipush (v := (7 : Int32)) hx hb dX0_setOf_15 (by decide) ?_
        refine lv_icmp_ge (tgt := 35) hx hb dX0_setOf_17 (by decide) (fun c4 => ?_) (fun c4 => ?_)
        · have hF := oT c4 hF
          exact fin_v (u := row) hF hx hb hr hlocks hK hP hD hS (Nat.le_of_ble_eq_true rfl) (Nat.le_of_ble_eq_true rfl) dX0_setOf_35
        · have hF := oF c4 hF
          refine lv_aload_n hx hb dX0_setOf_20 rfl (lv_at hl 0 rfl) ?_
          refine va_get (D := D) (ci := 0) (v := .ref aCr) (C := RX0) (T := TX0) (N := 1) hx hb hts (fun _ h => List.mem_cons_of_mem _ (List.mem_append_left _ (List.mem_append_right _ h))) hown hK hP 0 rfl rfl 0 (by decide) (hts (.fieldLink RX0 11 "BarometerClub$Club" "row" "[I") (List.mem_of_getElem? (i := 1) rfl)) (fun _ h9 => h9) rfl dX0_setOf_21 ?_
          refine lv_bipush (v := (13 : Int32)) hx hb dX0_setOf_24 (by decide) ?_
          refine lv_iload_n hx hb dX0_setOf_26 rfl (lv_at hl 1 rfl) ?_
          refine lv_bipush (v := (7 : Int32)) hx hb dX0_setOf_27 (by decide) ?_
          refine lv_imul hx hb dX0_setOf_29 ?_
          refine lv_iadd hx hb dX0_setOf_30 ?_
          refine lv_iload_n hx hb dX0_setOf_31 rfl (lv_at hl 2 rfl) ?_
          refine lv_iadd hx hb dX0_setOf_32 ?_
          refine lv_iload_n hx hb dX0_setOf_33 rfl (lv_at hl 3 rfl) ?_
          obtain ⟨g5, hF⟩ := oG hF
          refine va_iast hx hb hK hP hD hS 1 0 rfl rfl (inB_in g5) dX0_setOf_34 (fun H locs hP hD hS => ?_)
          have hP : va_P D vwC7 [(aC, .inr (0, [.ref aCr])), (aCr, .inl (K 0, 55, .inl (upd row (((13 : Int32) + (p1 * (7 : Int32))) + p2).toNatClampNeg p3)))] H := hP
          have hD : va_D A [(aC, .inr (0, [.ref aCr])), (aCr, .inl (K 0, 55, .inl (upd row (((13 : Int32) + (p1 * (7 : Int32))) + p2).toNatClampNeg p3)))] := hD
          exact fin_v (u := upd row (((13 : Int32) + (p1 * (7 : Int32))) + p2).toNatClampNeg p3) hF hx hb hr hlocks hK hP hD hS (Nat.le_of_ble_eq_true rfl) (Nat.le_of_ble_eq_true rfl) dX0_setOf_35
abbrev RM_X0_addOf : Room := { frames := 1, cells := 0, slots := 0, locals := 23 }
abbrev MC_X0_addOf : Nat := 0
abbrev MS_X0_addOf : Nat := 0
abbrev wf_X0_addOf (K : Nat → ClassId) (aC : Nat) (aCr : Nat)  (v : (Nat → Int32)) : va_W := [(aC, .inr (0, [.ref aCr])), (aCr, .inl (K 0, 55, .inl v))]
set_option maxHeartbeats 4000000 in
set_option maxRecDepth 100000 in
theorem c_X0_addOf (l : Launch) (D : va_G) (K : Nat → ClassId) (aC : Nat) (aCr : Nat) (row : Nat → Int32) (p1 : Int32) (p2 : Int32) (p3 : Int32) (v : (Nat → Int32)) (hF : f_X0_addOf row p1 p2 p3 = some v) (sz : Nat) :
    (Met l yX0_addOf wsX0_addOf RM_X0_addOf (PC D (TY K) [(aC, .inr (0, [.ref aCr])), (aCr, .inl (K 0, 55, .inl row))] [.ref aC, .int p1, .int p2, .int p3] sz) (QV D (TY K) (wf_X0_addOf K aC aCr) v (va_A [(aC, .inr (0, [.ref aCr])), (aCr, .inl (K 0, 55, .inl row))] sz)) MC_X0_addOf MS_X0_addOf (va_A [(aC, .inr (0, [.ref aCr])), (aCr, .inl (K 0, 55, .inl row))] sz)) := by
  refine pro (Qf := fun A => QV D (TY K) (wf_X0_addOf K aC aCr) v A) (cc := cX0_addOf) (maxL := 4) (ret := none) (by decide +kernel) rfl (Nat.le_of_ble_eq_true rfl) ?_
  intro p e s m args below meth c hx hb hr hts hown hlocks hml hini hK A hA hE hP hD hS ls hl
  have hown : s.vm.findClass RX0 = some m.cls := hown
  have hl : lv_has ls 4 [(0, .ref aC), (1, .int p1), (2, .int p2), (3, .int p3)] := hl
  rw [f_X0_addOf] at hF
  refine lv_aload_n hx hb dX0_addOf_0 rfl (lv_at hl 0 rfl) ?_
  refine lv_iload_n hx hb dX0_addOf_1 rfl (lv_at hl 1 rfl) ?_
  refine lv_iload_n hx hb dX0_addOf_2 rfl (lv_at hl 2 rfl) ?_
  refine lv_aload_n hx hb dX0_addOf_3 rfl (lv_at hl 0 rfl) ?_
  refine lv_iload_n hx hb dX0_addOf_4 rfl (lv_at hl 1 rfl) ?_
  refine lv_iload_n hx hb dX0_addOf_5 rfl (lv_at hl 2 rfl) ?_
  obtain ⟨v1, hv1, hF⟩ := oB hF
  refine call_i (wr := []) (wn := [(aC, .inr (0, [.ref aCr])), (aCr, .inl (K 0, 55, .inl row))]) (va_runV (As := [.int p1, .int p2]) (rest := [.int p2, .int p1, .ref aC]) ⟨hx, hb, hml, hown, hts⟩ (c_X0_of l D K aC aCr row p1 p2 v1 hv1 s.heap.size) (cwV 2 hts gX0_addOf_X0_of rfl rfl rfl (by decide +kernel) ⟨(Nat.le_of_ble_eq_true rfl), (Nat.le_of_ble_eq_true rfl)⟩) (prV hE hK hP hD hS hA [0, 1] rfl rfl 0 0 rfl rfl rfl) rfl rfl hl.1 rfl (lv_room (Nat.le_of_ble_eq_true rfl)) dX0_addOf_6 ⟨(Nat.le_of_ble_eq_true rfl), (Nat.le_of_ble_eq_true rfl)⟩) hP hD hS hA [0, 1] [] [0, 1] rfl rfl rfl (by decide) rfl rfl (fun H locs hP hD hS => ?_)
  refine lv_iload_n hx hb dX0_addOf_9 rfl (lv_at hl 3 rfl) ?_
  refine lv_iadd hx hb dX0_addOf_10 ?_
  obtain ⟨v2, hv2, hF⟩ := oB hF
  refine call_v (wr := []) (wn := [(aC, .inr (0, [.ref aCr])), (aCr, .inl (K 0, 55, .inl v2))]) (va_runV (As := [.int p1, .int p2, .int (v1.1 + p3)]) (rest := []) ⟨hx, hb, hml, hown, hts⟩ (c_X0_setOf l D K aC aCr row p1 p2 (v1.1 + p3) v2 hv2 H.size) (cwV 3 hts gX0_addOf_X0_setOf rfl rfl rfl (by decide +kernel) ⟨(Nat.le_of_ble_eq_true rfl), (Nat.le_of_ble_eq_true rfl)⟩) (prV hE hK hP hD hS hA [0, 1] rfl rfl 0 0 rfl rfl rfl) rfl rfl hl.1 rfl (lv_room (Nat.le_of_ble_eq_true rfl)) dX0_addOf_11 ⟨(Nat.le_of_ble_eq_true rfl), (Nat.le_of_ble_eq_true rfl)⟩) hP hD hS hA [0, 1] [] [0, 1] rfl rfl rfl (by decide) rfl rfl (fun H locs hP hD hS => ?_)
  exact fin_v (u := v2) hF hx hb hr hlocks hK hP hD hS (Nat.le_of_ble_eq_true rfl) (Nat.le_of_ble_eq_true rfl) dX0_addOf_14
abbrev RM_X0_copyTo : Room := { frames := 1, cells := 0, slots := 0, locals := 120 }
abbrev MC_X0_copyTo : Nat := 0
abbrev MS_X0_copyTo : Nat := 0
abbrev wf_X0_copyTo (K : Nat → ClassId) (aC : Nat) (aCr : Nat) (aA : Nat) (row : Nat → Int32) (cA : ClassId) (nA : Nat) (v : (Nat → Int32)) : va_W := [(aC, .inr (0, [.ref aCr])), (aCr, .inl (K 0, 55, .inl row)), (aA, .inl (cA, nA, .inl v))]
set_option maxHeartbeats 4000000 in
set_option maxRecDepth 100000 in
theorem c_X0_copyTo (l : Launch) (D : va_G) (K : Nat → ClassId) (aC : Nat) (aCr : Nat) (aA : Nat) (row : Nat → Int32) (fA : Nat → Int32) (cA : ClassId) (nA : Nat) (kA : Nat) (hkA : (TY K)[kA]? = some (cA, .int)) (p2 : Int32) (v : (Nat → Int32)) (hF : f_X0_copyTo nA row fA p2 = some v) (sz : Nat) :
    (Met l yX0_copyTo wsX0_copyTo RM_X0_copyTo (PC D (TY K) [(aC, .inr (0, [.ref aCr])), (aCr, .inl (K 0, 55, .inl row)), (aA, .inl (cA, nA, .inl fA))] [.ref aC, .ref aA, .int p2] sz) (QV D (TY K) (wf_X0_copyTo K aC aCr aA row cA nA) v (va_A [(aC, .inr (0, [.ref aCr])), (aCr, .inl (K 0, 55, .inl row)), (aA, .inl (cA, nA, .inl fA))] sz)) MC_X0_copyTo MS_X0_copyTo (va_A [(aC, .inr (0, [.ref aCr])), (aCr, .inl (K 0, 55, .inl row)), (aA, .inl (cA, nA, .inl fA))] sz)) := by
  refine pro (Qf := fun A => QV D (TY K) (wf_X0_copyTo K aC aCr aA row cA nA) v A) (cc := cX0_copyTo) (maxL := 3) (ret := none) (by decide +kernel) rfl (Nat.le_of_ble_eq_true rfl) ?_
  intro p e s m args below meth c hx hb hr hts hown hlocks hml hini hK A hA hE hP hD hS ls hl
  have hown : s.vm.findClass RX0 = some m.cls := hown
  have hl : lv_has ls 3 [(0, .ref aC), (1, .ref aA), (2, .int p2)] := hl
  rw [f_X0_copyTo] at hF
  refine lv_iload_n hx hb dX0_copyTo_0 rfl (lv_at hl 2 rfl) ?_
  refine lv_if_lt (tgt := 25) hx hb dX0_copyTo_1 (by decide) (fun c1 => ?_) (fun c1 => ?_)
  · have hF := oT c1 hF
    exact fin_v (u := fA) hF hx hb hr hlocks hK hP hD hS (Nat.le_of_ble_eq_true rfl) (Nat.le_of_ble_eq_true rfl) dX0_copyTo_25
  · have hF := oF c1 hF
    refine lv_iload_n hx hb dX0_copyTo_4 rfl (lv_at hl 2 rfl) ?_
    refine lv_aload_n hx hb dX0_copyTo_5 rfl (lv_at hl 1 rfl) ?_
    refine va_alen hx hb hK hP 2 kA rfl hkA (v := Int32.ofNat nA) rfl dX0_copyTo_6 ?_
    refine lv_bipush (v := (55 : Int32)) hx hb dX0_copyTo_7 (by decide) ?_
    refine lv_isub hx hb dX0_copyTo_9 ?_
    refine lv_icmp_gt (tgt := 25) hx hb dX0_copyTo_10 (by decide) (fun c2 => ?_) (fun c2 => ?_)
    · have hF := oT c2 hF
      exact fin_v (u := fA) hF hx hb hr hlocks hK hP hD hS (Nat.le_of_ble_eq_true rfl) (Nat.le_of_ble_eq_true rfl) dX0_copyTo_25
    · have hF := oF c2 hF
      refine lv_aload_n hx hb dX0_copyTo_13 rfl (lv_at hl 0 rfl) ?_
      refine va_get (D := D) (ci := 0) (v := .ref aCr) (C := RX0) (T := TX0) (N := 1) hx hb hts (fun _ h => List.mem_cons_of_mem _ (List.mem_append_right _ h)) hown hK hP 0 rfl rfl 0 (by decide) (hts (.fieldLink RX0 11 "BarometerClub$Club" "row" "[I") (List.mem_of_getElem? (i := 1) rfl)) (fun _ h9 => h9) rfl dX0_copyTo_14 ?_
      refine lv_iconst (v := (0 : Int32)) hx hb dX0_copyTo_17 (by decide) ?_
      refine lv_aload_n hx hb dX0_copyTo_18 rfl (lv_at hl 1 rfl) ?_
      refine lv_iload_n hx hb dX0_copyTo_19 rfl (lv_at hl 2 rfl) ?_
      refine lv_bipush (v := (55 : Int32)) hx hb dX0_copyTo_20 (by decide) ?_
      obtain ⟨g3, hF⟩ := oG hF
      obtain ⟨z1, z2, z3, z4, z5⟩ := cpB_s g3
      refine va_copyi hx hb (hml.trans hl.1.symm) hown (hts (.methodLink RX0 31 arraycopyName) (List.mem_of_getElem? (i := 2) rfl)) (hts (.native arraycopyName) (List.mem_of_getElem? (i := 3) rfl)) (hts (.static arraycopyName) (List.mem_of_getElem? (i := 4) rfl)) (hts (.initialized "java/lang/System") (List.mem_of_getElem? (i := 5) rfl)) hK hP hD hS 1 2 0 kA rfl rfl rfl hkA rfl z1 z2 z3 z4 z5 (fun _ _ => rfl) (Nat.le_of_ble_eq_true rfl) (by decide +kernel) dX0_copyTo_22 (fun H locs hP hD hS => ?_)
      have hP : va_P D vwC7 [(aC, .inr (0, [.ref aCr])), (aCr, .inl (K 0, 55, .inl row)), (aA, .inl (cA, nA, .inl (va_cpy row fA (0 : Int32).toNatClampNeg p2.toNatClampNeg (55 : Int32).toNatClampNeg)))] H := hP
      have hD : va_D A [(aC, .inr (0, [.ref aCr])), (aCr, .inl (K 0, 55, .inl row)), (aA, .inl (cA, nA, .inl (va_cpy row fA (0 : Int32).toNatClampNeg p2.toNatClampNeg (55 : Int32).toNatClampNeg)))] := hD
      exact fin_v (u := va_cpy row fA (0 : Int32).toNatClampNeg p2.toNatClampNeg (55 : Int32).toNatClampNeg) hF hx hb hr hlocks hK hP hD hS (Nat.le_of_ble_eq_true rfl) (Nat.le_of_ble_eq_true rfl) dX0_copyTo_25
abbrev RM_X0_copyFrom : Room := { frames := 1, cells := 0, slots := 0, locals := 120 }
abbrev MC_X0_copyFrom : Nat := 0
abbrev MS_X0_copyFrom : Nat := 0
abbrev wf_X0_copyFrom (K : Nat → ClassId) (aC : Nat) (aCr : Nat) (aA : Nat) (fA : Nat → Int32) (cA : ClassId) (nA : Nat) (v : (Nat → Int32)) : va_W := [(aC, .inr (0, [.ref aCr])), (aCr, .inl (K 0, 55, .inl v)), (aA, .inl (cA, nA, .inl fA))]
set_option maxHeartbeats 4000000 in
set_option maxRecDepth 100000 in
theorem c_X0_copyFrom (l : Launch) (D : va_G) (K : Nat → ClassId) (aC : Nat) (aCr : Nat) (aA : Nat) (row : Nat → Int32) (fA : Nat → Int32) (cA : ClassId) (nA : Nat) (kA : Nat) (hkA : (TY K)[kA]? = some (cA, .int)) (p2 : Int32) (v : (Nat → Int32)) (hF : f_X0_copyFrom nA row fA p2 = some v) (sz : Nat) :
    (Met l yX0_copyFrom wsX0_copyFrom RM_X0_copyFrom (PC D (TY K) [(aC, .inr (0, [.ref aCr])), (aCr, .inl (K 0, 55, .inl row)), (aA, .inl (cA, nA, .inl fA))] [.ref aC, .ref aA, .int p2] sz) (QV D (TY K) (wf_X0_copyFrom K aC aCr aA fA cA nA) v (va_A [(aC, .inr (0, [.ref aCr])), (aCr, .inl (K 0, 55, .inl row)), (aA, .inl (cA, nA, .inl fA))] sz)) MC_X0_copyFrom MS_X0_copyFrom (va_A [(aC, .inr (0, [.ref aCr])), (aCr, .inl (K 0, 55, .inl row)), (aA, .inl (cA, nA, .inl fA))] sz)) := by
  refine pro (Qf := fun A => QV D (TY K) (wf_X0_copyFrom K aC aCr aA fA cA nA) v A) (cc := cX0_copyFrom) (maxL := 3) (ret := none) (by decide +kernel) rfl (Nat.le_of_ble_eq_true rfl) ?_
  intro p e s m args below meth c hx hb hr hts hown hlocks hml hini hK A hA hE hP hD hS ls hl
  have hown : s.vm.findClass RX0 = some m.cls := hown
  have hl : lv_has ls 3 [(0, .ref aC), (1, .ref aA), (2, .int p2)] := hl
  rw [f_X0_copyFrom] at hF
  refine lv_iload_n hx hb dX0_copyFrom_0 rfl (lv_at hl 2 rfl) ?_
  refine lv_if_lt (tgt := 25) hx hb dX0_copyFrom_1 (by decide) (fun c1 => ?_) (fun c1 => ?_)
  · have hF := oT c1 hF
    exact fin_v (u := row) hF hx hb hr hlocks hK hP hD hS (Nat.le_of_ble_eq_true rfl) (Nat.le_of_ble_eq_true rfl) dX0_copyFrom_25
  · have hF := oF c1 hF
    refine lv_iload_n hx hb dX0_copyFrom_4 rfl (lv_at hl 2 rfl) ?_
    refine lv_aload_n hx hb dX0_copyFrom_5 rfl (lv_at hl 1 rfl) ?_
    refine va_alen hx hb hK hP 2 kA rfl hkA (v := Int32.ofNat nA) rfl dX0_copyFrom_6 ?_
    refine lv_bipush (v := (55 : Int32)) hx hb dX0_copyFrom_7 (by decide) ?_
    refine lv_isub hx hb dX0_copyFrom_9 ?_
    refine lv_icmp_gt (tgt := 25) hx hb dX0_copyFrom_10 (by decide) (fun c2 => ?_) (fun c2 => ?_)
    · have hF := oT c2 hF
      exact fin_v (u := row) hF hx hb hr hlocks hK hP hD hS (Nat.le_of_ble_eq_true rfl) (Nat.le_of_ble_eq_true rfl) dX0_copyFrom_25
    · have hF := oF c2 hF
      refine lv_aload_n hx hb dX0_copyFrom_13 rfl (lv_at hl 1 rfl) ?_
      refine lv_iload_n hx hb dX0_copyFrom_14 rfl (lv_at hl 2 rfl) ?_
      refine lv_aload_n hx hb dX0_copyFrom_15 rfl (lv_at hl 0 rfl) ?_
      refine va_get (D := D) (ci := 0) (v := .ref aCr) (C := RX0) (T := TX0) (N := 1) hx hb hts (fun _ h => List.mem_cons_of_mem _ (List.mem_append_right _ h)) hown hK hP 0 rfl rfl 0 (by decide) (hts (.fieldLink RX0 11 "BarometerClub$Club" "row" "[I") (List.mem_of_getElem? (i := 1) rfl)) (fun _ h9 => h9) rfl dX0_copyFrom_16 ?_
      refine lv_iconst (v := (0 : Int32)) hx hb dX0_copyFrom_19 (by decide) ?_
      refine lv_bipush (v := (55 : Int32)) hx hb dX0_copyFrom_20 (by decide) ?_
      obtain ⟨g3, hF⟩ := oG hF
      obtain ⟨z1, z2, z3, z4, z5⟩ := cpB_s g3
      refine va_copyi hx hb (hml.trans hl.1.symm) hown (hts (.methodLink RX0 31 arraycopyName) (List.mem_of_getElem? (i := 2) rfl)) (hts (.native arraycopyName) (List.mem_of_getElem? (i := 3) rfl)) (hts (.static arraycopyName) (List.mem_of_getElem? (i := 4) rfl)) (hts (.initialized "java/lang/System") (List.mem_of_getElem? (i := 5) rfl)) hK hP hD hS 2 1 kA 0 rfl rfl hkA rfl rfl z1 z2 z3 z4 z5 (fun _ _ => rfl) (Nat.le_of_ble_eq_true rfl) (by decide +kernel) dX0_copyFrom_22 (fun H locs hP hD hS => ?_)
      have hP : va_P D vwC7 [(aC, .inr (0, [.ref aCr])), (aCr, .inl (K 0, 55, .inl (va_cpy fA row p2.toNatClampNeg (0 : Int32).toNatClampNeg (55 : Int32).toNatClampNeg))), (aA, .inl (cA, nA, .inl fA))] H := hP
      have hD : va_D A [(aC, .inr (0, [.ref aCr])), (aCr, .inl (K 0, 55, .inl (va_cpy fA row p2.toNatClampNeg (0 : Int32).toNatClampNeg (55 : Int32).toNatClampNeg))), (aA, .inl (cA, nA, .inl fA))] := hD
      exact fin_v (u := va_cpy fA row p2.toNatClampNeg (0 : Int32).toNatClampNeg (55 : Int32).toNatClampNeg) hF hx hb hr hlocks hK hP hD hS (Nat.le_of_ble_eq_true rfl) (Nat.le_of_ble_eq_true rfl) dX0_copyFrom_25
abbrev RM_X0_isMember : Room := { frames := 0, cells := 0, slots := 0, locals := 0 }
abbrev MC_X0_isMember : Nat := 0
abbrev MS_X0_isMember : Nat := 0
abbrev wf_X0_isMember (K : Nat → ClassId) (aC : Nat) (aCr : Nat) (row : Nat → Int32) (v : Int32 × Unit) : va_W := [(aC, .inr (0, [.ref aCr])), (aCr, .inl (K 0, 55, .inl row))]
set_option maxHeartbeats 4000000 in
set_option maxRecDepth 100000 in
theorem c_X0_isMember (l : Launch) (D : va_G) (K : Nat → ClassId) (aC : Nat) (aCr : Nat) (row : Nat → Int32) (p1 : Int32) (v : Int32 × Unit) (hF : f_X0_isMember row p1 = some v) (sz : Nat) :
    (Met l yX0_isMember wsX0_isMember RM_X0_isMember (PC D (TY K) [(aC, .inr (0, [.ref aCr])), (aCr, .inl (K 0, 55, .inl row))] [.ref aC, .int p1] sz) (QI D (TY K) (wf_X0_isMember K aC aCr row) v (va_A [(aC, .inr (0, [.ref aCr])), (aCr, .inl (K 0, 55, .inl row))] sz)) MC_X0_isMember MS_X0_isMember (va_A [(aC, .inr (0, [.ref aCr])), (aCr, .inl (K 0, 55, .inl row))] sz)) := by
  refine pro (Qf := fun A => QI D (TY K) (wf_X0_isMember K aC aCr row) v A) (cc := cX0_isMember) (maxL := 2) (ret := (some .boolean)) (by decide +kernel) rfl (Nat.le_of_ble_eq_true rfl) ?_
  intro p e s m args below meth c hx hb hr hts hown hlocks hml hini hK A hA hE hP hD hS ls hl
  have hown : s.vm.findClass RX0 = some m.cls := hown
  have hl : lv_has ls 2 [(0, .ref aC), (1, .int p1)] := hl
  rw [f_X0_isMember] at hF
  refine lv_iload_n hx hb dX0_isMember_0 rfl (lv_at hl 1 rfl) ?_
  refine lv_if_lt (tgt := 18) hx hb dX0_isMember_1 (by decide) (fun c1 => ?_) (fun c1 => ?_)
  · have hF := oT c1 hF
    refine lv_iconst (v := (0 : Int32)) hx hb dX0_isMember_18 (by decide) ?_
    exact fin_z (u := ((0 : Int32), ())) hF (okN_n (ty := .boolean) (x := (0 : Int32)) (by decide)) hx hb hr hlocks hK hP hD hS (Nat.le_of_ble_eq_true rfl) (Nat.le_of_ble_eq_true rfl) dX0_isMember_19
  · have hF := oF c1 hF
    refine lv_iload_n hx hb dX0_isMember_4 rfl (lv_at hl 1 rfl) ?_
    refine lv_aload_n hx hb dX0_isMember_5 rfl (lv_at hl 0 rfl) ?_
    refine va_get (D := D) (ci := 0) (v := .ref aCr) (C := RX0) (T := TX0) (N := 1) hx hb hts (fun _ h => List.mem_cons_of_mem _ (List.mem_append_left _ (List.mem_append_right _ h))) hown hK hP 0 rfl rfl 0 (by decide) (hts (.fieldLink RX0 11 "BarometerClub$Club" "row" "[I") (List.mem_of_getElem? (i := 1) rfl)) (fun _ h9 => h9) rfl dX0_isMember_6 ?_
    refine lv_iconst (v := (0 : Int32)) hx hb dX0_isMember_9 (by decide) ?_
    refine va_iald hx hb hK hP 1 0 rfl rfl (inB_in (by decide : inB (0 : Int32) 55 = true)) dX0_isMember_10 ?_
    refine lv_icmp_ge (tgt := 18) hx hb dX0_isMember_11 (by decide) (fun c2 => ?_) (fun c2 => ?_)
    · have hF := oT c2 hF
      refine lv_iconst (v := (0 : Int32)) hx hb dX0_isMember_18 (by decide) ?_
      exact fin_z (u := ((0 : Int32), ())) hF (okN_n (ty := .boolean) (x := (0 : Int32)) (by decide)) hx hb hr hlocks hK hP hD hS (Nat.le_of_ble_eq_true rfl) (Nat.le_of_ble_eq_true rfl) dX0_isMember_19
    · have hF := oF c2 hF
      refine lv_iconst (v := (1 : Int32)) hx hb dX0_isMember_14 (by decide) ?_
      refine lv_goto (tgt := 19) hx hb dX0_isMember_15 (by decide) ?_
      exact fin_z (u := ((1 : Int32), ())) hF (okN_n (ty := .boolean) (x := (1 : Int32)) (by decide)) hx hb hr hlocks hK hP hD hS (Nat.le_of_ble_eq_true rfl) (Nat.le_of_ble_eq_true rfl) dX0_isMember_19
abbrev RM_X0_hasWagered : Room := { frames := 1, cells := 0, slots := 0, locals := 23 }
abbrev MC_X0_hasWagered : Nat := 0
abbrev MS_X0_hasWagered : Nat := 0
abbrev wf_X0_hasWagered (K : Nat → ClassId) (aC : Nat) (aCr : Nat) (row : Nat → Int32) (v : Int32 × Unit) : va_W := [(aC, .inr (0, [.ref aCr])), (aCr, .inl (K 0, 55, .inl row))]
set_option maxHeartbeats 4000000 in
set_option maxRecDepth 100000 in
theorem c_X0_hasWagered (l : Launch) (D : va_G) (K : Nat → ClassId) (aC : Nat) (aCr : Nat) (row : Nat → Int32) (p1 : Int32) (v : Int32 × Unit) (hF : f_X0_hasWagered row p1 = some v) (sz : Nat) :
    (Met l yX0_hasWagered wsX0_hasWagered RM_X0_hasWagered (PC D (TY K) [(aC, .inr (0, [.ref aCr])), (aCr, .inl (K 0, 55, .inl row))] [.ref aC, .int p1] sz) (QI D (TY K) (wf_X0_hasWagered K aC aCr row) v (va_A [(aC, .inr (0, [.ref aCr])), (aCr, .inl (K 0, 55, .inl row))] sz)) MC_X0_hasWagered MS_X0_hasWagered (va_A [(aC, .inr (0, [.ref aCr])), (aCr, .inl (K 0, 55, .inl row))] sz)) := by
  refine pro (Qf := fun A => QI D (TY K) (wf_X0_hasWagered K aC aCr row) v A) (cc := cX0_hasWagered) (maxL := 2) (ret := (some .boolean)) (by decide +kernel) rfl (Nat.le_of_ble_eq_true rfl) ?_
  intro p e s m args below meth c hx hb hr hts hown hlocks hml hini hK A hA hE hP hD hS ls hl
  have hown : s.vm.findClass RX0 = some m.cls := hown
  have hl : lv_has ls 2 [(0, .ref aC), (1, .int p1)] := hl
  rw [f_X0_hasWagered] at hF
  refine lv_aload_n hx hb dX0_hasWagered_0 rfl (lv_at hl 0 rfl) ?_
  refine lv_iload_n hx hb dX0_hasWagered_1 rfl (lv_at hl 1 rfl) ?_
  refine lv_iconst (v := (2 : Int32)) hx hb dX0_hasWagered_2 (by decide) ?_
  obtain ⟨v1, hv1, hF⟩ := oB hF
  refine call_i (wr := []) (wn := [(aC, .inr (0, [.ref aCr])), (aCr, .inl (K 0, 55, .inl row))]) (va_runV (As := [.int p1, .int (2 : Int32)]) (rest := []) ⟨hx, hb, hml, hown, hts⟩ (c_X0_of l D K aC aCr row p1 (2 : Int32) v1 hv1 s.heap.size) (cwV 2 hts gX0_hasWagered_X0_of rfl rfl rfl (by decide +kernel) ⟨(Nat.le_of_ble_eq_true rfl), (Nat.le_of_ble_eq_true rfl)⟩) (prV hE hK hP hD hS hA [0, 1] rfl rfl 0 0 rfl rfl rfl) rfl rfl hl.1 rfl (lv_room (Nat.le_of_ble_eq_true rfl)) dX0_hasWagered_3 ⟨(Nat.le_of_ble_eq_true rfl), (Nat.le_of_ble_eq_true rfl)⟩) hP hD hS hA [0, 1] [] [0, 1] rfl rfl rfl (by decide) rfl rfl (fun H locs hP hD hS => ?_)
  refine lv_iconst (v := (-1 : Int32)) hx hb dX0_hasWagered_6 (by decide) ?_
  refine lv_icmp_eq (tgt := 14) hx hb dX0_hasWagered_7 (by decide) (fun c2 => ?_) (fun c2 => ?_)
  · have hF := oT c2 hF
    refine lv_iconst (v := (0 : Int32)) hx hb dX0_hasWagered_14 (by decide) ?_
    exact fin_z (u := ((0 : Int32), ())) hF (okN_n (ty := .boolean) (x := (0 : Int32)) (by decide)) hx hb hr hlocks hK hP hD hS (Nat.le_of_ble_eq_true rfl) (Nat.le_of_ble_eq_true rfl) dX0_hasWagered_15
  · have hF := oF c2 hF
    refine lv_iconst (v := (1 : Int32)) hx hb dX0_hasWagered_10 (by decide) ?_
    refine lv_goto (tgt := 15) hx hb dX0_hasWagered_11 (by decide) ?_
    exact fin_z (u := ((1 : Int32), ())) hF (okN_n (ty := .boolean) (x := (1 : Int32)) (by decide)) hx hb hr hlocks hK hP hD hS (Nat.le_of_ble_eq_true rfl) (Nat.le_of_ble_eq_true rfl) dX0_hasWagered_15
abbrev RM_X0_hasTapped : Room := { frames := 1, cells := 0, slots := 0, locals := 23 }
abbrev MC_X0_hasTapped : Nat := 0
abbrev MS_X0_hasTapped : Nat := 0
abbrev wf_X0_hasTapped (K : Nat → ClassId) (aC : Nat) (aCr : Nat) (row : Nat → Int32) (v : Int32 × Unit) : va_W := [(aC, .inr (0, [.ref aCr])), (aCr, .inl (K 0, 55, .inl row))]
set_option maxHeartbeats 4000000 in
set_option maxRecDepth 100000 in
theorem c_X0_hasTapped (l : Launch) (D : va_G) (K : Nat → ClassId) (aC : Nat) (aCr : Nat) (row : Nat → Int32) (p1 : Int32) (v : Int32 × Unit) (hF : f_X0_hasTapped row p1 = some v) (sz : Nat) :
    (Met l yX0_hasTapped wsX0_hasTapped RM_X0_hasTapped (PC D (TY K) [(aC, .inr (0, [.ref aCr])), (aCr, .inl (K 0, 55, .inl row))] [.ref aC, .int p1] sz) (QI D (TY K) (wf_X0_hasTapped K aC aCr row) v (va_A [(aC, .inr (0, [.ref aCr])), (aCr, .inl (K 0, 55, .inl row))] sz)) MC_X0_hasTapped MS_X0_hasTapped (va_A [(aC, .inr (0, [.ref aCr])), (aCr, .inl (K 0, 55, .inl row))] sz)) := by
  refine pro (Qf := fun A => QI D (TY K) (wf_X0_hasTapped K aC aCr row) v A) (cc := cX0_hasTapped) (maxL := 2) (ret := (some .boolean)) (by decide +kernel) rfl (Nat.le_of_ble_eq_true rfl) ?_
  intro p e s m args below meth c hx hb hr hts hown hlocks hml hini hK A hA hE hP hD hS ls hl
  have hown : s.vm.findClass RX0 = some m.cls := hown
  have hl : lv_has ls 2 [(0, .ref aC), (1, .int p1)] := hl
  rw [f_X0_hasTapped] at hF
  refine lv_aload_n hx hb dX0_hasTapped_0 rfl (lv_at hl 0 rfl) ?_
  refine lv_iload_n hx hb dX0_hasTapped_1 rfl (lv_at hl 1 rfl) ?_
  refine lv_iconst (v := (4 : Int32)) hx hb dX0_hasTapped_2 (by decide) ?_
  obtain ⟨v1, hv1, hF⟩ := oB hF
  refine call_i (wr := []) (wn := [(aC, .inr (0, [.ref aCr])), (aCr, .inl (K 0, 55, .inl row))]) (va_runV (As := [.int p1, .int (4 : Int32)]) (rest := []) ⟨hx, hb, hml, hown, hts⟩ (c_X0_of l D K aC aCr row p1 (4 : Int32) v1 hv1 s.heap.size) (cwV 2 hts gX0_hasTapped_X0_of rfl rfl rfl (by decide +kernel) ⟨(Nat.le_of_ble_eq_true rfl), (Nat.le_of_ble_eq_true rfl)⟩) (prV hE hK hP hD hS hA [0, 1] rfl rfl 0 0 rfl rfl rfl) rfl rfl hl.1 rfl (lv_room (Nat.le_of_ble_eq_true rfl)) dX0_hasTapped_3 ⟨(Nat.le_of_ble_eq_true rfl), (Nat.le_of_ble_eq_true rfl)⟩) hP hD hS hA [0, 1] [] [0, 1] rfl rfl rfl (by decide) rfl rfl (fun H locs hP hD hS => ?_)
  refine lv_iconst (v := (1 : Int32)) hx hb dX0_hasTapped_6 (by decide) ?_
  refine lv_icmp_ne (tgt := 14) hx hb dX0_hasTapped_7 (by decide) (fun c2 => ?_) (fun c2 => ?_)
  · have hF := oF c2 hF
    refine lv_iconst (v := (0 : Int32)) hx hb dX0_hasTapped_14 (by decide) ?_
    exact fin_z (u := ((0 : Int32), ())) hF (okN_n (ty := .boolean) (x := (0 : Int32)) (by decide)) hx hb hr hlocks hK hP hD hS (Nat.le_of_ble_eq_true rfl) (Nat.le_of_ble_eq_true rfl) dX0_hasTapped_15
  · have hF := oT c2 hF
    refine lv_iconst (v := (1 : Int32)) hx hb dX0_hasTapped_10 (by decide) ?_
    refine lv_goto (tgt := 15) hx hb dX0_hasTapped_11 (by decide) ?_
    exact fin_z (u := ((1 : Int32), ())) hF (okN_n (ty := .boolean) (x := (1 : Int32)) (by decide)) hx hb hr hlocks hK hP hD hS (Nat.le_of_ble_eq_true rfl) (Nat.le_of_ble_eq_true rfl) dX0_hasTapped_15
abbrev RM_X0_ownerOf : Room := { frames := 1, cells := 0, slots := 0, locals := 23 }
abbrev MC_X0_ownerOf : Nat := 0
abbrev MS_X0_ownerOf : Nat := 0
abbrev wf_X0_ownerOf (K : Nat → ClassId) (aC : Nat) (aCr : Nat) (row : Nat → Int32) (v : Int32 × Unit) : va_W := [(aC, .inr (0, [.ref aCr])), (aCr, .inl (K 0, 55, .inl row))]
set_option maxHeartbeats 4000000 in
set_option maxRecDepth 100000 in
theorem c_X0_ownerOf (l : Launch) (D : va_G) (K : Nat → ClassId) (aC : Nat) (aCr : Nat) (row : Nat → Int32) (p1 : Int32) (v : Int32 × Unit) (hF : f_X0_ownerOf row p1 = some v) (sz : Nat) :
    (Met l yX0_ownerOf wsX0_ownerOf RM_X0_ownerOf (PC D (TY K) [(aC, .inr (0, [.ref aCr])), (aCr, .inl (K 0, 55, .inl row))] [.ref aC, .int p1] sz) (QI D (TY K) (wf_X0_ownerOf K aC aCr row) v (va_A [(aC, .inr (0, [.ref aCr])), (aCr, .inl (K 0, 55, .inl row))] sz)) MC_X0_ownerOf MS_X0_ownerOf (va_A [(aC, .inr (0, [.ref aCr])), (aCr, .inl (K 0, 55, .inl row))] sz)) := by
  refine pro (Qf := fun A => QI D (TY K) (wf_X0_ownerOf K aC aCr row) v A) (cc := cX0_ownerOf) (maxL := 3) (ret := (some .int)) (by decide +kernel) rfl (Nat.le_of_ble_eq_true rfl) ?_
  intro p e s m args below meth c hx hb hr hts hown hlocks hml hini hK A hA hE hP hD hS ls hl
  have hown : s.vm.findClass RX0 = some m.cls := hown
  have hl : lv_has ls 3 [(0, .ref aC), (1, .int p1)] := hl
  have loop_2 : ∀ (y2_1 : Int32) (n : Nat) (y2_2 : Int32), f_X0_ownerOf_L2 row y2_1 n y2_2 = some v → ∀ (H : Heap) (locs : List Loc), va_P D vwC7 [(aC, .inr (0, [.ref aCr])), (aCr, .inl (K 0, 55, .inl row))] H → va_D A [(aC, .inr (0, [.ref aCr])), (aCr, .inl (K 0, 55, .inl row))] → va_S A s.heap H locs → ∀ ls : Array Slot, lv_has ls 3 [(0, .ref aC), (1, .int y2_1), (2, .int y2_2)] → W p l e RM_X0_ownerOf s m args below meth c H locs 0 0 (MQ below (QI D (TY K) (wf_X0_ownerOf K aC aCr row) v A) args s MC_X0_ownerOf MS_X0_ownerOf A) (F0 m 2 ls []) := by
    intro y2_1 n
    induction n with
    | zero =>
      intro y2_2 hF
      exact nomatch hF
    | succ n ih =>
      intro y2_2 hF H locs hP hD hS ls hl
      rw [f_X0_ownerOf_L2.eq_2] at hF
      refine lv_iload_n hx hb dX0_ownerOf_2 rfl (lv_at hl 2 rfl) ?_
      refine lv_aload_n hx hb dX0_ownerOf_3 rfl (lv_at hl 0 rfl) ?_
      refine va_get (D := D) (ci := 0) (v := .ref aCr) (C := RX0) (T := TX0) (N := 1) hx hb hts (fun _ h => List.mem_cons_of_mem _ (List.mem_append_left _ (List.mem_append_right _ h))) hown hK hP 0 rfl rfl 0 (by decide) (hts (.fieldLink RX0 11 "BarometerClub$Club" "row" "[I") (List.mem_of_getElem? (i := 1) rfl)) (fun _ h9 => h9) rfl dX0_ownerOf_4 ?_
      refine lv_iconst (v := (0 : Int32)) hx hb dX0_ownerOf_7 (by decide) ?_
      refine va_iald hx hb hK hP 1 0 rfl rfl (inB_in (by decide : inB (0 : Int32) 55 = true)) dX0_ownerOf_8 ?_
      refine lv_icmp_ge (tgt := 30) hx hb dX0_ownerOf_9 (by decide) (fun c1 => ?_) (fun c1 => ?_)
      · have hF := oT c1 hF
        refine lv_iconst (v := (-1 : Int32)) hx hb dX0_ownerOf_30 (by decide) ?_
        exact fin_i (u := ((-1 : Int32), ())) hF hx hb hr hlocks hK hP hD hS (Nat.le_of_ble_eq_true rfl) (Nat.le_of_ble_eq_true rfl) dX0_ownerOf_31
      · have hF := oF c1 hF
        refine lv_aload_n hx hb dX0_ownerOf_12 rfl (lv_at hl 0 rfl) ?_
        refine lv_iload_n hx hb dX0_ownerOf_13 rfl (lv_at hl 2 rfl) ?_
        refine lv_iconst (v := (1 : Int32)) hx hb dX0_ownerOf_14 (by decide) ?_
        obtain ⟨v2, hv2, hF⟩ := oB hF
        refine call_i (wr := []) (wn := [(aC, .inr (0, [.ref aCr])), (aCr, .inl (K 0, 55, .inl row))]) (va_runV (As := [.int y2_2, .int (1 : Int32)]) (rest := []) ⟨hx, hb, hml, hown, hts⟩ (c_X0_of l D K aC aCr row y2_2 (1 : Int32) v2 hv2 H.size) (cwV 2 hts gX0_ownerOf_X0_of rfl rfl rfl (by decide +kernel) ⟨(Nat.le_of_ble_eq_true rfl), (Nat.le_of_ble_eq_true rfl)⟩) (prV hE hK hP hD hS hA [0, 1] rfl rfl 0 0 rfl rfl rfl) rfl rfl hl.1 rfl (lv_room (Nat.le_of_ble_eq_true rfl)) dX0_ownerOf_15 ⟨(Nat.le_of_ble_eq_true rfl), (Nat.le_of_ble_eq_true rfl)⟩) hP hD hS hA [0, 1] [] [0, 1] rfl rfl rfl (by decide) rfl rfl (fun H locs hP hD hS => ?_)
        refine lv_iload_n hx hb dX0_ownerOf_18 rfl (lv_at hl 1 rfl) ?_
        refine lv_icmp_ne (tgt := 24) hx hb dX0_ownerOf_19 (by decide) (fun c3 => ?_) (fun c3 => ?_)
        · have hF := oF c3 hF
          refine lv_iinc (v := y2_2 + (1 : Int32)) (lv' := [(2, .int (y2_2 + (1 : Int32))), (0, .ref aC), (1, .int y2_1)]) hx hb dX0_ownerOf_24 hl (k := 2) rfl (by first | rfl | decide) (by decide) rfl (fun ls hl => ?_)
          refine lv_goto (tgt := 2) hx hb dX0_ownerOf_27 (by decide) ?_
          exact ih (y2_2 + (1 : Int32)) hF _ _ hP hD hS _ (lv_sub hl [1, 2, 0] rfl)
        · have hF := oT c3 hF
          refine lv_iload_n hx hb dX0_ownerOf_22 rfl (lv_at hl 2 rfl) ?_
          exact fin_i (u := (y2_2, ())) hF hx hb hr hlocks hK hP hD hS (Nat.le_of_ble_eq_true rfl) (Nat.le_of_ble_eq_true rfl) dX0_ownerOf_23
  rw [f_X0_ownerOf] at hF
  refine lv_iconst (v := (0 : Int32)) hx hb dX0_ownerOf_0 (by decide) ?_
  refine lv_istore_n (lv' := [(2, .int (0 : Int32)), (0, .ref aC), (1, .int p1)]) hx hb dX0_ownerOf_1 rfl hl (by decide) rfl (fun ls hl => ?_)
  exact loop_2 p1 FU (0 : Int32) hF _ _ hP hD hS _ (lv_sub hl [1, 2, 0] rfl)
abbrev RM_X7_isHeight : Room := { frames := 0, cells := 0, slots := 0, locals := 0 }
abbrev MC_X7_isHeight : Nat := 0
abbrev MS_X7_isHeight : Nat := 0
abbrev wf_X7_isHeight (K : Nat → ClassId)   (v : Int32 × Unit) : va_W := []
set_option maxHeartbeats 4000000 in
set_option maxRecDepth 100000 in
theorem c_X7_isHeight (l : Launch) (D : va_G) (K : Nat → ClassId)   (p1 : Int32) (v : Int32 × Unit) (hF : f_X7_isHeight p1 = some v) (sz : Nat) :
    (Met l yX7_isHeight wsX7_isHeight RM_X7_isHeight (PC D (TY K) [] [.int p1] sz) (QI D (TY K) (wf_X7_isHeight K) v (va_A [] sz)) MC_X7_isHeight MS_X7_isHeight (va_A [] sz)) := by
  refine pro (Qf := fun A => QI D (TY K) (wf_X7_isHeight K) v A) (cc := cX7_isHeight) (maxL := 1) (ret := (some .boolean)) (by decide +kernel) rfl (Nat.le_of_ble_eq_true rfl) ?_
  intro p e s m args below meth c hx hb hr hts hown hlocks hml hini hK A hA hE hP hD hS ls hl
  have hown : s.vm.findClass RX7 = some m.cls := hown
  have hl : lv_has ls 1 [(0, .int p1)] := hl
  rw [f_X7_isHeight] at hF
  refine lv_iload_n hx hb dX7_isHeight_0 rfl (lv_at hl 0 rfl) ?_
  refine lv_if_lt (tgt := 14) hx hb dX7_isHeight_1 (by decide) (fun c1 => ?_) (fun c1 => ?_)
  · have hF := oT c1 hF
    refine lv_iconst (v := (0 : Int32)) hx hb dX7_isHeight_14 (by decide) ?_
    exact fin_z (u := ((0 : Int32), ())) hF (okN_n (ty := .boolean) (x := (0 : Int32)) (by decide)) hx hb hr hlocks hK hP hD hS (Nat.le_of_ble_eq_true rfl) (Nat.le_of_ble_eq_true rfl) dX7_isHeight_15
  · have hF := oF c1 hF
    refine lv_iload_n hx hb dX7_isHeight_4 rfl (lv_at hl 0 rfl) ?_
    refine lv_bipush (v := (9 : Int32)) hx hb dX7_isHeight_5 (by decide) ?_
    refine lv_icmp_gt (tgt := 14) hx hb dX7_isHeight_7 (by decide) (fun c2 => ?_) (fun c2 => ?_)
    · have hF := oT c2 hF
      refine lv_iconst (v := (0 : Int32)) hx hb dX7_isHeight_14 (by decide) ?_
      exact fin_z (u := ((0 : Int32), ())) hF (okN_n (ty := .boolean) (x := (0 : Int32)) (by decide)) hx hb hr hlocks hK hP hD hS (Nat.le_of_ble_eq_true rfl) (Nat.le_of_ble_eq_true rfl) dX7_isHeight_15
    · have hF := oF c2 hF
      refine lv_iconst (v := (1 : Int32)) hx hb dX7_isHeight_10 (by decide) ?_
      refine lv_goto (tgt := 15) hx hb dX7_isHeight_11 (by decide) ?_
      exact fin_z (u := ((1 : Int32), ())) hF (okN_n (ty := .boolean) (x := (1 : Int32)) (by decide)) hx hb hr hlocks hK hP hD hS (Nat.le_of_ble_eq_true rfl) (Nat.le_of_ble_eq_true rfl) dX7_isHeight_15
abbrev RM_X0_isFree : Room := { frames := 2, cells := 0, slots := 0, locals := 45 }
abbrev MC_X0_isFree : Nat := 0
abbrev MS_X0_isFree : Nat := 0
abbrev wf_X0_isFree (K : Nat → ClassId) (aC : Nat) (aCr : Nat) (row : Nat → Int32) (v : Int32 × Unit) : va_W := [(aC, .inr (0, [.ref aCr])), (aCr, .inl (K 0, 55, .inl row))]
set_option maxHeartbeats 4000000 in
set_option maxRecDepth 100000 in
theorem c_X0_isFree (l : Launch) (D : va_G) (K : Nat → ClassId) (aC : Nat) (aCr : Nat) (row : Nat → Int32) (p1 : Int32) (v : Int32 × Unit) (hF : f_X0_isFree row p1 = some v) (sz : Nat) :
    (Met l yX0_isFree wsX0_isFree RM_X0_isFree (PC D (TY K) [(aC, .inr (0, [.ref aCr])), (aCr, .inl (K 0, 55, .inl row))] [.ref aC, .int p1] sz) (QI D (TY K) (wf_X0_isFree K aC aCr row) v (va_A [(aC, .inr (0, [.ref aCr])), (aCr, .inl (K 0, 55, .inl row))] sz)) MC_X0_isFree MS_X0_isFree (va_A [(aC, .inr (0, [.ref aCr])), (aCr, .inl (K 0, 55, .inl row))] sz)) := by
  refine pro (Qf := fun A => QI D (TY K) (wf_X0_isFree K aC aCr row) v A) (cc := cX0_isFree) (maxL := 2) (ret := (some .boolean)) (by decide +kernel) rfl (Nat.le_of_ble_eq_true rfl) ?_
  intro p e s m args below meth c hx hb hr hts hown hlocks hml hini hK A hA hE hP hD hS ls hl
  have hown : s.vm.findClass RX0 = some m.cls := hown
  have hl : lv_has ls 2 [(0, .ref aC), (1, .int p1)] := hl
  rw [f_X0_isFree] at hF
  refine lv_iload_n hx hb dX0_isFree_0 rfl (lv_at hl 1 rfl) ?_
  obtain ⟨v1, hv1, hF⟩ := oB hF
  refine call_i (wr := [(aC, .inr (0, [.ref aCr])), (aCr, .inl (K 0, 55, .inl row))]) (wn := [(aC, .inr (0, [.ref aCr])), (aCr, .inl (K 0, 55, .inl row))]) (va_runSN (As := [.int p1]) (rest := []) ⟨hx, hb, hml, hown, hts⟩ (c_X7_isHeight l D K p1 v1 hv1 s.heap.size) ⟨va_cnB 1 hts gX0_isFree_X7_isHeight_n37 rfl rfl rfl (hE.2.2.1 _ (List.mem_of_getElem? (i := 5) rfl)) (hts (.initialized RX7) (List.mem_of_getElem? (i := 2) rfl)) (by decide +kernel) ⟨(Nat.le_of_ble_eq_true rfl), (Nat.le_of_ble_eq_true rfl)⟩, (hts (.static yX7_isHeight) (List.mem_of_getElem? (i := 1) rfl)), trivial⟩ (prS hE hK hP hD hS hA [] rfl rfl) rfl rfl hl.1 rfl (lv_room (Nat.le_of_ble_eq_true rfl)) dX0_isFree_1 ⟨(Nat.le_of_ble_eq_true rfl), (Nat.le_of_ble_eq_true rfl)⟩) hP hD hS hA [] [0, 1] [0, 1] rfl rfl rfl (by decide) rfl rfl (fun H locs hP hD hS => ?_)
  refine lv_if_eq (tgt := 20) hx hb dX0_isFree_4 (by decide) (fun c2 => ?_) (fun c2 => ?_)
  · have hF := oT c2 hF
    refine lv_iconst (v := (0 : Int32)) hx hb dX0_isFree_20 (by decide) ?_
    exact fin_z (u := ((0 : Int32), ())) hF (okN_n (ty := .boolean) (x := (0 : Int32)) (by decide)) hx hb hr hlocks hK hP hD hS (Nat.le_of_ble_eq_true rfl) (Nat.le_of_ble_eq_true rfl) dX0_isFree_21
  · have hF := oF c2 hF
    refine lv_aload_n hx hb dX0_isFree_7 rfl (lv_at hl 0 rfl) ?_
    refine lv_iload_n hx hb dX0_isFree_8 rfl (lv_at hl 1 rfl) ?_
    obtain ⟨v3, hv3, hF⟩ := oB hF
    refine call_i (wr := []) (wn := [(aC, .inr (0, [.ref aCr])), (aCr, .inl (K 0, 55, .inl row))]) (va_runV (As := [.int p1]) (rest := []) ⟨hx, hb, hml, hown, hts⟩ (c_X0_ownerOf l D K aC aCr row p1 v3 hv3 H.size) (cwV 1 hts gX0_isFree_X0_ownerOf rfl rfl rfl (by decide +kernel) ⟨(Nat.le_of_ble_eq_true rfl), (Nat.le_of_ble_eq_true rfl)⟩) (prV hE hK hP hD hS hA [0, 1] rfl rfl 0 0 rfl rfl rfl) rfl rfl hl.1 rfl (lv_room (Nat.le_of_ble_eq_true rfl)) dX0_isFree_9 ⟨(Nat.le_of_ble_eq_true rfl), (Nat.le_of_ble_eq_true rfl)⟩) hP hD hS hA [0, 1] [] [0, 1] rfl rfl rfl (by decide) rfl rfl (fun H locs hP hD hS => ?_)
    refine lv_iconst (v := (-1 : Int32)) hx hb dX0_isFree_12 (by decide) ?_
    refine lv_icmp_ne (tgt := 20) hx hb dX0_isFree_13 (by decide) (fun c4 => ?_) (fun c4 => ?_)
    · have hF := oF c4 hF
      refine lv_iconst (v := (0 : Int32)) hx hb dX0_isFree_20 (by decide) ?_
      exact fin_z (u := ((0 : Int32), ())) hF (okN_n (ty := .boolean) (x := (0 : Int32)) (by decide)) hx hb hr hlocks hK hP hD hS (Nat.le_of_ble_eq_true rfl) (Nat.le_of_ble_eq_true rfl) dX0_isFree_21
    · have hF := oT c4 hF
      refine lv_iconst (v := (1 : Int32)) hx hb dX0_isFree_16 (by decide) ?_
      refine lv_goto (tgt := 21) hx hb dX0_isFree_17 (by decide) ?_
      exact fin_z (u := ((1 : Int32), ())) hF (okN_n (ty := .boolean) (x := (1 : Int32)) (by decide)) hx hb hr hlocks hK hP hD hS (Nat.le_of_ble_eq_true rfl) (Nat.le_of_ble_eq_true rfl) dX0_isFree_21
abbrev RM_X0_coinsOfAll : Room := { frames := 1, cells := 0, slots := 0, locals := 23 }
abbrev MC_X0_coinsOfAll : Nat := 0
abbrev MS_X0_coinsOfAll : Nat := 0
abbrev wf_X0_coinsOfAll (K : Nat → ClassId) (aC : Nat) (aCr : Nat) (row : Nat → Int32) (v : Int32 × Unit) : va_W := [(aC, .inr (0, [.ref aCr])), (aCr, .inl (K 0, 55, .inl row))]
set_option maxHeartbeats 4000000 in
set_option maxRecDepth 100000 in
theorem c_X0_coinsOfAll (l : Launch) (D : va_G) (K : Nat → ClassId) (aC : Nat) (aCr : Nat) (row : Nat → Int32)  (v : Int32 × Unit) (hF : f_X0_coinsOfAll row = some v) (sz : Nat) :
    (Met l yX0_coinsOfAll wsX0_coinsOfAll RM_X0_coinsOfAll (PC D (TY K) [(aC, .inr (0, [.ref aCr])), (aCr, .inl (K 0, 55, .inl row))] [.ref aC] sz) (QI D (TY K) (wf_X0_coinsOfAll K aC aCr row) v (va_A [(aC, .inr (0, [.ref aCr])), (aCr, .inl (K 0, 55, .inl row))] sz)) MC_X0_coinsOfAll MS_X0_coinsOfAll (va_A [(aC, .inr (0, [.ref aCr])), (aCr, .inl (K 0, 55, .inl row))] sz)) := by
  refine pro (Qf := fun A => QI D (TY K) (wf_X0_coinsOfAll K aC aCr row) v A) (cc := cX0_coinsOfAll) (maxL := 3) (ret := (some .int)) (by decide +kernel) rfl (Nat.le_of_ble_eq_true rfl) ?_
  intro p e s m args below meth c hx hb hr hts hown hlocks hml hini hK A hA hE hP hD hS ls hl
  have hown : s.vm.findClass RX0 = some m.cls := hown
  have hl : lv_has ls 3 [(0, .ref aC)] := hl
  have loop_4 : ∀  (n : Nat) (y4_1 : Int32) (y4_2 : Int32), f_X0_coinsOfAll_L4 row n y4_1 y4_2 = some v → ∀ (H : Heap) (locs : List Loc), va_P D vwC7 [(aC, .inr (0, [.ref aCr])), (aCr, .inl (K 0, 55, .inl row))] H → va_D A [(aC, .inr (0, [.ref aCr])), (aCr, .inl (K 0, 55, .inl row))] → va_S A s.heap H locs → ∀ ls : Array Slot, lv_has ls 3 [(0, .ref aC), (1, .int y4_1), (2, .int y4_2)] → W p l e RM_X0_coinsOfAll s m args below meth c H locs 0 0 (MQ below (QI D (TY K) (wf_X0_coinsOfAll K aC aCr row) v A) args s MC_X0_coinsOfAll MS_X0_coinsOfAll A) (F0 m 4 ls []) := by
    intro  n
    induction n with
    | zero =>
      intro y4_1 y4_2 hF
      exact nomatch hF
    | succ n ih =>
      intro y4_1 y4_2 hF H locs hP hD hS ls hl
      rw [f_X0_coinsOfAll_L4.eq_2] at hF
      refine lv_iload_n hx hb dX0_coinsOfAll_4 rfl (lv_at hl 2 rfl) ?_
      refine lv_aload_n hx hb dX0_coinsOfAll_5 rfl (lv_at hl 0 rfl) ?_
      refine va_get (D := D) (ci := 0) (v := .ref aCr) (C := RX0) (T := TX0) (N := 1) hx hb hts (fun _ h => List.mem_cons_of_mem _ (List.mem_append_left _ (List.mem_append_right _ h))) hown hK hP 0 rfl rfl 0 (by decide) (hts (.fieldLink RX0 11 "BarometerClub$Club" "row" "[I") (List.mem_of_getElem? (i := 1) rfl)) (fun _ h9 => h9) rfl dX0_coinsOfAll_6 ?_
      refine lv_iconst (v := (0 : Int32)) hx hb dX0_coinsOfAll_9 (by decide) ?_
      refine va_iald hx hb hK hP 1 0 rfl rfl (inB_in (by decide : inB (0 : Int32) 55 = true)) dX0_coinsOfAll_10 ?_
      refine lv_icmp_ge (tgt := 29) hx hb dX0_coinsOfAll_11 (by decide) (fun c1 => ?_) (fun c1 => ?_)
      · have hF := oT c1 hF
        refine lv_iload_n hx hb dX0_coinsOfAll_29 rfl (lv_at hl 1 rfl) ?_
        exact fin_i (u := (y4_1, ())) hF hx hb hr hlocks hK hP hD hS (Nat.le_of_ble_eq_true rfl) (Nat.le_of_ble_eq_true rfl) dX0_coinsOfAll_30
      · have hF := oF c1 hF
        refine lv_iload_n hx hb dX0_coinsOfAll_14 rfl (lv_at hl 1 rfl) ?_
        refine lv_aload_n hx hb dX0_coinsOfAll_15 rfl (lv_at hl 0 rfl) ?_
        refine lv_iload_n hx hb dX0_coinsOfAll_16 rfl (lv_at hl 2 rfl) ?_
        refine lv_iconst (v := (0 : Int32)) hx hb dX0_coinsOfAll_17 (by decide) ?_
        obtain ⟨v2, hv2, hF⟩ := oB hF
        refine call_i (wr := []) (wn := [(aC, .inr (0, [.ref aCr])), (aCr, .inl (K 0, 55, .inl row))]) (va_runV (As := [.int y4_2, .int (0 : Int32)]) (rest := [.int y4_1]) ⟨hx, hb, hml, hown, hts⟩ (c_X0_of l D K aC aCr row y4_2 (0 : Int32) v2 hv2 H.size) (cwV 2 hts gX0_coinsOfAll_X0_of rfl rfl rfl (by decide +kernel) ⟨(Nat.le_of_ble_eq_true rfl), (Nat.le_of_ble_eq_true rfl)⟩) (prV hE hK hP hD hS hA [0, 1] rfl rfl 0 0 rfl rfl rfl) rfl rfl hl.1 rfl (lv_room (Nat.le_of_ble_eq_true rfl)) dX0_coinsOfAll_18 ⟨(Nat.le_of_ble_eq_true rfl), (Nat.le_of_ble_eq_true rfl)⟩) hP hD hS hA [0, 1] [] [0, 1] rfl rfl rfl (by decide) rfl rfl (fun H locs hP hD hS => ?_)
        refine lv_iadd hx hb dX0_coinsOfAll_21 ?_
        refine lv_istore_n (lv' := [(1, .int (y4_1 + v2.1)), (0, .ref aC), (2, .int y4_2)]) hx hb dX0_coinsOfAll_22 rfl hl (by decide) rfl (fun ls hl => ?_)
        refine lv_iinc (v := y4_2 + (1 : Int32)) (lv' := [(2, .int (y4_2 + (1 : Int32))), (1, .int (y4_1 + v2.1)), (0, .ref aC)]) hx hb dX0_coinsOfAll_23 hl (k := 2) rfl (by first | rfl | decide) (by decide) rfl (fun ls hl => ?_)
        refine lv_goto (tgt := 4) hx hb dX0_coinsOfAll_26 (by decide) ?_
        exact ih (y4_1 + v2.1) (y4_2 + (1 : Int32)) hF _ _ hP hD hS _ (lv_sub hl [2, 1, 0] rfl)
  rw [f_X0_coinsOfAll] at hF
  refine lv_iconst (v := (0 : Int32)) hx hb dX0_coinsOfAll_0 (by decide) ?_
  refine lv_istore_n (lv' := [(1, .int (0 : Int32)), (0, .ref aC)]) hx hb dX0_coinsOfAll_1 rfl hl (by decide) rfl (fun ls hl => ?_)
  refine lv_iconst (v := (0 : Int32)) hx hb dX0_coinsOfAll_2 (by decide) ?_
  refine lv_istore_n (lv' := [(2, .int (0 : Int32)), (1, .int (0 : Int32)), (0, .ref aC)]) hx hb dX0_coinsOfAll_3 rfl hl (by decide) rfl (fun ls hl => ?_)
  exact loop_4  FU (0 : Int32) (0 : Int32) hF _ _ hP hD hS _ (lv_sub hl [2, 1, 0] rfl)
abbrev RM_X0_wageredNumber : Room := { frames := 2, cells := 0, slots := 0, locals := 44 }
abbrev MC_X0_wageredNumber : Nat := 0
abbrev MS_X0_wageredNumber : Nat := 0
abbrev wf_X0_wageredNumber (K : Nat → ClassId) (aC : Nat) (aCr : Nat) (row : Nat → Int32) (v : Int32 × Unit) : va_W := [(aC, .inr (0, [.ref aCr])), (aCr, .inl (K 0, 55, .inl row))]
set_option maxHeartbeats 4000000 in
set_option maxRecDepth 100000 in
theorem c_X0_wageredNumber (l : Launch) (D : va_G) (K : Nat → ClassId) (aC : Nat) (aCr : Nat) (row : Nat → Int32)  (v : Int32 × Unit) (hF : f_X0_wageredNumber row = some v) (sz : Nat) :
    (Met l yX0_wageredNumber wsX0_wageredNumber RM_X0_wageredNumber (PC D (TY K) [(aC, .inr (0, [.ref aCr])), (aCr, .inl (K 0, 55, .inl row))] [.ref aC] sz) (QI D (TY K) (wf_X0_wageredNumber K aC aCr row) v (va_A [(aC, .inr (0, [.ref aCr])), (aCr, .inl (K 0, 55, .inl row))] sz)) MC_X0_wageredNumber MS_X0_wageredNumber (va_A [(aC, .inr (0, [.ref aCr])), (aCr, .inl (K 0, 55, .inl row))] sz)) := by
  refine pro (Qf := fun A => QI D (TY K) (wf_X0_wageredNumber K aC aCr row) v A) (cc := cX0_wageredNumber) (maxL := 3) (ret := (some .int)) (by decide +kernel) rfl (Nat.le_of_ble_eq_true rfl) ?_
  intro p e s m args below meth c hx hb hr hts hown hlocks hml hini hK A hA hE hP hD hS ls hl
  have hown : s.vm.findClass RX0 = some m.cls := hown
  have hl : lv_has ls 3 [(0, .ref aC)] := hl
  have loop_4 : ∀  (n : Nat) (y4_1 : Int32) (y4_2 : Int32), f_X0_wageredNumber_L4 row n y4_1 y4_2 = some v → ∀ (H : Heap) (locs : List Loc), va_P D vwC7 [(aC, .inr (0, [.ref aCr])), (aCr, .inl (K 0, 55, .inl row))] H → va_D A [(aC, .inr (0, [.ref aCr])), (aCr, .inl (K 0, 55, .inl row))] → va_S A s.heap H locs → ∀ ls : Array Slot, lv_has ls 3 [(0, .ref aC), (1, .int y4_1), (2, .int y4_2)] → W p l e RM_X0_wageredNumber s m args below meth c H locs 0 0 (MQ below (QI D (TY K) (wf_X0_wageredNumber K aC aCr row) v A) args s MC_X0_wageredNumber MS_X0_wageredNumber A) (F0 m 4 ls []) := by
    intro  n
    induction n with
    | zero =>
      intro y4_1 y4_2 hF
      exact nomatch hF
    | succ n ih =>
      intro y4_1 y4_2 hF H locs hP hD hS ls hl
      rw [f_X0_wageredNumber_L4.eq_2] at hF
      refine lv_iload_n hx hb dX0_wageredNumber_4 rfl (lv_at hl 2 rfl) ?_
      refine lv_aload_n hx hb dX0_wageredNumber_5 rfl (lv_at hl 0 rfl) ?_
      refine va_get (D := D) (ci := 0) (v := .ref aCr) (C := RX0) (T := TX0) (N := 1) hx hb hts (fun _ h => List.mem_cons_of_mem _ (List.mem_append_left _ (List.mem_append_right _ h))) hown hK hP 0 rfl rfl 0 (by decide) (hts (.fieldLink RX0 11 "BarometerClub$Club" "row" "[I") (List.mem_of_getElem? (i := 1) rfl)) (fun _ h9 => h9) rfl dX0_wageredNumber_6 ?_
      refine lv_iconst (v := (0 : Int32)) hx hb dX0_wageredNumber_9 (by decide) ?_
      refine va_iald hx hb hK hP 1 0 rfl rfl (inB_in (by decide : inB (0 : Int32) 55 = true)) dX0_wageredNumber_10 ?_
      refine lv_icmp_ge (tgt := 36) hx hb dX0_wageredNumber_11 (by decide) (fun c1 => ?_) (fun c1 => ?_)
      · have hF := oT c1 hF
        refine lv_iload_n hx hb dX0_wageredNumber_36 rfl (lv_at hl 1 rfl) ?_
        exact fin_i (u := (y4_1, ())) hF hx hb hr hlocks hK hP hD hS (Nat.le_of_ble_eq_true rfl) (Nat.le_of_ble_eq_true rfl) dX0_wageredNumber_37
      · have hF := oF c1 hF
        refine lv_iload_n hx hb dX0_wageredNumber_14 rfl (lv_at hl 1 rfl) ?_
        refine lv_aload_n hx hb dX0_wageredNumber_15 rfl (lv_at hl 0 rfl) ?_
        refine lv_iload_n hx hb dX0_wageredNumber_16 rfl (lv_at hl 2 rfl) ?_
        obtain ⟨v2, hv2, hF⟩ := oB hF
        refine call_i (wr := []) (wn := [(aC, .inr (0, [.ref aCr])), (aCr, .inl (K 0, 55, .inl row))]) (va_runV (As := [.int y4_2]) (rest := [.int y4_1]) ⟨hx, hb, hml, hown, hts⟩ (c_X0_hasWagered l D K aC aCr row y4_2 v2 hv2 H.size) (cwV 1 hts gX0_wageredNumber_X0_hasWagered rfl rfl rfl (by decide +kernel) ⟨(Nat.le_of_ble_eq_true rfl), (Nat.le_of_ble_eq_true rfl)⟩) (prV hE hK hP hD hS hA [0, 1] rfl rfl 0 0 rfl rfl rfl) rfl rfl hl.1 rfl (lv_room (Nat.le_of_ble_eq_true rfl)) dX0_wageredNumber_17 ⟨(Nat.le_of_ble_eq_true rfl), (Nat.le_of_ble_eq_true rfl)⟩) hP hD hS hA [0, 1] [] [0, 1] rfl rfl rfl (by decide) rfl rfl (fun H locs hP hD hS => ?_)
        refine lv_if_eq (tgt := 27) hx hb dX0_wageredNumber_20 (by decide) (fun c3 => ?_) (fun c3 => ?_)
        · have hF := oT c3 hF
          refine lv_iconst (v := (0 : Int32)) hx hb dX0_wageredNumber_27 (by decide) ?_
          refine lv_iadd hx hb dX0_wageredNumber_28 ?_
          refine lv_istore_n (lv' := [(1, .int (y4_1 + (0 : Int32))), (0, .ref aC), (2, .int y4_2)]) hx hb dX0_wageredNumber_29 rfl hl (by decide) rfl (fun ls hl => ?_)
          refine lv_iinc (v := y4_2 + (1 : Int32)) (lv' := [(2, .int (y4_2 + (1 : Int32))), (1, .int (y4_1 + (0 : Int32))), (0, .ref aC)]) hx hb dX0_wageredNumber_30 hl (k := 2) rfl (by first | rfl | decide) (by decide) rfl (fun ls hl => ?_)
          refine lv_goto (tgt := 4) hx hb dX0_wageredNumber_33 (by decide) ?_
          exact ih (y4_1 + (0 : Int32)) (y4_2 + (1 : Int32)) hF _ _ hP hD hS _ (lv_sub hl [2, 1, 0] rfl)
        · have hF := oF c3 hF
          refine lv_iconst (v := (1 : Int32)) hx hb dX0_wageredNumber_23 (by decide) ?_
          refine lv_goto (tgt := 28) hx hb dX0_wageredNumber_24 (by decide) ?_
          refine lv_iadd hx hb dX0_wageredNumber_28 ?_
          refine lv_istore_n (lv' := [(1, .int (y4_1 + (1 : Int32))), (0, .ref aC), (2, .int y4_2)]) hx hb dX0_wageredNumber_29 rfl hl (by decide) rfl (fun ls hl => ?_)
          refine lv_iinc (v := y4_2 + (1 : Int32)) (lv' := [(2, .int (y4_2 + (1 : Int32))), (1, .int (y4_1 + (1 : Int32))), (0, .ref aC)]) hx hb dX0_wageredNumber_30 hl (k := 2) rfl (by first | rfl | decide) (by decide) rfl (fun ls hl => ?_)
          refine lv_goto (tgt := 4) hx hb dX0_wageredNumber_33 (by decide) ?_
          exact ih (y4_1 + (1 : Int32)) (y4_2 + (1 : Int32)) hF _ _ hP hD hS _ (lv_sub hl [2, 1, 0] rfl)
  rw [f_X0_wageredNumber] at hF
  refine lv_iconst (v := (0 : Int32)) hx hb dX0_wageredNumber_0 (by decide) ?_
  refine lv_istore_n (lv' := [(1, .int (0 : Int32)), (0, .ref aC)]) hx hb dX0_wageredNumber_1 rfl hl (by decide) rfl (fun ls hl => ?_)
  refine lv_iconst (v := (0 : Int32)) hx hb dX0_wageredNumber_2 (by decide) ?_
  refine lv_istore_n (lv' := [(2, .int (0 : Int32)), (1, .int (0 : Int32)), (0, .ref aC)]) hx hb dX0_wageredNumber_3 rfl hl (by decide) rfl (fun ls hl => ?_)
  exact loop_4  FU (0 : Int32) (0 : Int32) hF _ _ hP hD hS _ (lv_sub hl [2, 1, 0] rfl)
abbrev RM_X0_tappedNumber : Room := { frames := 2, cells := 0, slots := 0, locals := 44 }
abbrev MC_X0_tappedNumber : Nat := 0
abbrev MS_X0_tappedNumber : Nat := 0
abbrev wf_X0_tappedNumber (K : Nat → ClassId) (aC : Nat) (aCr : Nat) (row : Nat → Int32) (v : Int32 × Unit) : va_W := [(aC, .inr (0, [.ref aCr])), (aCr, .inl (K 0, 55, .inl row))]
set_option maxHeartbeats 4000000 in
set_option maxRecDepth 100000 in
theorem c_X0_tappedNumber (l : Launch) (D : va_G) (K : Nat → ClassId) (aC : Nat) (aCr : Nat) (row : Nat → Int32)  (v : Int32 × Unit) (hF : f_X0_tappedNumber row = some v) (sz : Nat) :
    (Met l yX0_tappedNumber wsX0_tappedNumber RM_X0_tappedNumber (PC D (TY K) [(aC, .inr (0, [.ref aCr])), (aCr, .inl (K 0, 55, .inl row))] [.ref aC] sz) (QI D (TY K) (wf_X0_tappedNumber K aC aCr row) v (va_A [(aC, .inr (0, [.ref aCr])), (aCr, .inl (K 0, 55, .inl row))] sz)) MC_X0_tappedNumber MS_X0_tappedNumber (va_A [(aC, .inr (0, [.ref aCr])), (aCr, .inl (K 0, 55, .inl row))] sz)) := by
  refine pro (Qf := fun A => QI D (TY K) (wf_X0_tappedNumber K aC aCr row) v A) (cc := cX0_tappedNumber) (maxL := 3) (ret := (some .int)) (by decide +kernel) rfl (Nat.le_of_ble_eq_true rfl) ?_
  intro p e s m args below meth c hx hb hr hts hown hlocks hml hini hK A hA hE hP hD hS ls hl
  have hown : s.vm.findClass RX0 = some m.cls := hown
  have hl : lv_has ls 3 [(0, .ref aC)] := hl
  have loop_4 : ∀  (n : Nat) (y4_1 : Int32) (y4_2 : Int32), f_X0_tappedNumber_L4 row n y4_1 y4_2 = some v → ∀ (H : Heap) (locs : List Loc), va_P D vwC7 [(aC, .inr (0, [.ref aCr])), (aCr, .inl (K 0, 55, .inl row))] H → va_D A [(aC, .inr (0, [.ref aCr])), (aCr, .inl (K 0, 55, .inl row))] → va_S A s.heap H locs → ∀ ls : Array Slot, lv_has ls 3 [(0, .ref aC), (1, .int y4_1), (2, .int y4_2)] → W p l e RM_X0_tappedNumber s m args below meth c H locs 0 0 (MQ below (QI D (TY K) (wf_X0_tappedNumber K aC aCr row) v A) args s MC_X0_tappedNumber MS_X0_tappedNumber A) (F0 m 4 ls []) := by
    intro  n
    induction n with
    | zero =>
      intro y4_1 y4_2 hF
      exact nomatch hF
    | succ n ih =>
      intro y4_1 y4_2 hF H locs hP hD hS ls hl
      rw [f_X0_tappedNumber_L4.eq_2] at hF
      refine lv_iload_n hx hb dX0_tappedNumber_4 rfl (lv_at hl 2 rfl) ?_
      refine lv_aload_n hx hb dX0_tappedNumber_5 rfl (lv_at hl 0 rfl) ?_
      refine va_get (D := D) (ci := 0) (v := .ref aCr) (C := RX0) (T := TX0) (N := 1) hx hb hts (fun _ h => List.mem_cons_of_mem _ (List.mem_append_left _ (List.mem_append_right _ h))) hown hK hP 0 rfl rfl 0 (by decide) (hts (.fieldLink RX0 11 "BarometerClub$Club" "row" "[I") (List.mem_of_getElem? (i := 1) rfl)) (fun _ h9 => h9) rfl dX0_tappedNumber_6 ?_
      refine lv_iconst (v := (0 : Int32)) hx hb dX0_tappedNumber_9 (by decide) ?_
      refine va_iald hx hb hK hP 1 0 rfl rfl (inB_in (by decide : inB (0 : Int32) 55 = true)) dX0_tappedNumber_10 ?_
      refine lv_icmp_ge (tgt := 36) hx hb dX0_tappedNumber_11 (by decide) (fun c1 => ?_) (fun c1 => ?_)
      · have hF := oT c1 hF
        refine lv_iload_n hx hb dX0_tappedNumber_36 rfl (lv_at hl 1 rfl) ?_
        exact fin_i (u := (y4_1, ())) hF hx hb hr hlocks hK hP hD hS (Nat.le_of_ble_eq_true rfl) (Nat.le_of_ble_eq_true rfl) dX0_tappedNumber_37
      · have hF := oF c1 hF
        refine lv_iload_n hx hb dX0_tappedNumber_14 rfl (lv_at hl 1 rfl) ?_
        refine lv_aload_n hx hb dX0_tappedNumber_15 rfl (lv_at hl 0 rfl) ?_
        refine lv_iload_n hx hb dX0_tappedNumber_16 rfl (lv_at hl 2 rfl) ?_
        obtain ⟨v2, hv2, hF⟩ := oB hF
        refine call_i (wr := []) (wn := [(aC, .inr (0, [.ref aCr])), (aCr, .inl (K 0, 55, .inl row))]) (va_runV (As := [.int y4_2]) (rest := [.int y4_1]) ⟨hx, hb, hml, hown, hts⟩ (c_X0_hasTapped l D K aC aCr row y4_2 v2 hv2 H.size) (cwV 1 hts gX0_tappedNumber_X0_hasTapped rfl rfl rfl (by decide +kernel) ⟨(Nat.le_of_ble_eq_true rfl), (Nat.le_of_ble_eq_true rfl)⟩) (prV hE hK hP hD hS hA [0, 1] rfl rfl 0 0 rfl rfl rfl) rfl rfl hl.1 rfl (lv_room (Nat.le_of_ble_eq_true rfl)) dX0_tappedNumber_17 ⟨(Nat.le_of_ble_eq_true rfl), (Nat.le_of_ble_eq_true rfl)⟩) hP hD hS hA [0, 1] [] [0, 1] rfl rfl rfl (by decide) rfl rfl (fun H locs hP hD hS => ?_)
        refine lv_if_eq (tgt := 27) hx hb dX0_tappedNumber_20 (by decide) (fun c3 => ?_) (fun c3 => ?_)
        · have hF := oT c3 hF
          refine lv_iconst (v := (0 : Int32)) hx hb dX0_tappedNumber_27 (by decide) ?_
          refine lv_iadd hx hb dX0_tappedNumber_28 ?_
          refine lv_istore_n (lv' := [(1, .int (y4_1 + (0 : Int32))), (0, .ref aC), (2, .int y4_2)]) hx hb dX0_tappedNumber_29 rfl hl (by decide) rfl (fun ls hl => ?_)
          refine lv_iinc (v := y4_2 + (1 : Int32)) (lv' := [(2, .int (y4_2 + (1 : Int32))), (1, .int (y4_1 + (0 : Int32))), (0, .ref aC)]) hx hb dX0_tappedNumber_30 hl (k := 2) rfl (by first | rfl | decide) (by decide) rfl (fun ls hl => ?_)
          refine lv_goto (tgt := 4) hx hb dX0_tappedNumber_33 (by decide) ?_
          exact ih (y4_1 + (0 : Int32)) (y4_2 + (1 : Int32)) hF _ _ hP hD hS _ (lv_sub hl [2, 1, 0] rfl)
        · have hF := oF c3 hF
          refine lv_iconst (v := (1 : Int32)) hx hb dX0_tappedNumber_23 (by decide) ?_
          refine lv_goto (tgt := 28) hx hb dX0_tappedNumber_24 (by decide) ?_
          refine lv_iadd hx hb dX0_tappedNumber_28 ?_
          refine lv_istore_n (lv' := [(1, .int (y4_1 + (1 : Int32))), (0, .ref aC), (2, .int y4_2)]) hx hb dX0_tappedNumber_29 rfl hl (by decide) rfl (fun ls hl => ?_)
          refine lv_iinc (v := y4_2 + (1 : Int32)) (lv' := [(2, .int (y4_2 + (1 : Int32))), (1, .int (y4_1 + (1 : Int32))), (0, .ref aC)]) hx hb dX0_tappedNumber_30 hl (k := 2) rfl (by first | rfl | decide) (by decide) rfl (fun ls hl => ?_)
          refine lv_goto (tgt := 4) hx hb dX0_tappedNumber_33 (by decide) ?_
          exact ih (y4_1 + (1 : Int32)) (y4_2 + (1 : Int32)) hF _ _ hP hD hS _ (lv_sub hl [2, 1, 0] rfl)
  rw [f_X0_tappedNumber] at hF
  refine lv_iconst (v := (0 : Int32)) hx hb dX0_tappedNumber_0 (by decide) ?_
  refine lv_istore_n (lv' := [(1, .int (0 : Int32)), (0, .ref aC)]) hx hb dX0_tappedNumber_1 rfl hl (by decide) rfl (fun ls hl => ?_)
  refine lv_iconst (v := (0 : Int32)) hx hb dX0_tappedNumber_2 (by decide) ?_
  refine lv_istore_n (lv' := [(2, .int (0 : Int32)), (1, .int (0 : Int32)), (0, .ref aC)]) hx hb dX0_tappedNumber_3 rfl hl (by decide) rfl (fun ls hl => ?_)
  exact loop_4  FU (0 : Int32) (0 : Int32) hF _ _ hP hD hS _ (lv_sub hl [2, 1, 0] rfl)
abbrev RM_X0_clearWager : Room := { frames := 1, cells := 0, slots := 0, locals := 23 }
abbrev MC_X0_clearWager : Nat := 0
abbrev MS_X0_clearWager : Nat := 0
abbrev wf_X0_clearWager (K : Nat → ClassId) (aC : Nat) (aCr : Nat)  (v : (Nat → Int32)) : va_W := [(aC, .inr (0, [.ref aCr])), (aCr, .inl (K 0, 55, .inl v))]
set_option maxHeartbeats 4000000 in
set_option maxRecDepth 100000 in
theorem c_X0_clearWager (l : Launch) (D : va_G) (K : Nat → ClassId) (aC : Nat) (aCr : Nat) (row : Nat → Int32) (p1 : Int32) (v : (Nat → Int32)) (hF : f_X0_clearWager row p1 = some v) (sz : Nat) :
    (Met l yX0_clearWager wsX0_clearWager RM_X0_clearWager (PC D (TY K) [(aC, .inr (0, [.ref aCr])), (aCr, .inl (K 0, 55, .inl row))] [.ref aC, .int p1] sz) (QV D (TY K) (wf_X0_clearWager K aC aCr) v (va_A [(aC, .inr (0, [.ref aCr])), (aCr, .inl (K 0, 55, .inl row))] sz)) MC_X0_clearWager MS_X0_clearWager (va_A [(aC, .inr (0, [.ref aCr])), (aCr, .inl (K 0, 55, .inl row))] sz)) := by
  refine pro (Qf := fun A => QV D (TY K) (wf_X0_clearWager K aC aCr) v A) (cc := cX0_clearWager) (maxL := 2) (ret := none) (by decide +kernel) rfl (Nat.le_of_ble_eq_true rfl) ?_
  intro p e s m args below meth c hx hb hr hts hown hlocks hml hini hK A hA hE hP hD hS ls hl
  have hown : s.vm.findClass RX0 = some m.cls := hown
  have hl : lv_has ls 2 [(0, .ref aC), (1, .int p1)] := hl
  rw [f_X0_clearWager] at hF
  refine lv_aload_n hx hb dX0_clearWager_0 rfl (lv_at hl 0 rfl) ?_
  refine lv_iload_n hx hb dX0_clearWager_1 rfl (lv_at hl 1 rfl) ?_
  refine lv_iconst (v := (2 : Int32)) hx hb dX0_clearWager_2 (by decide) ?_
  refine lv_iconst (v := (-1 : Int32)) hx hb dX0_clearWager_3 (by decide) ?_
  obtain ⟨v1, hv1, hF⟩ := oB hF
  refine call_v (wr := []) (wn := [(aC, .inr (0, [.ref aCr])), (aCr, .inl (K 0, 55, .inl v1))]) (va_runV (As := [.int p1, .int (2 : Int32), .int (-1 : Int32)]) (rest := []) ⟨hx, hb, hml, hown, hts⟩ (c_X0_setOf l D K aC aCr row p1 (2 : Int32) (-1 : Int32) v1 hv1 s.heap.size) (cwV 3 hts gX0_clearWager_X0_setOf rfl rfl rfl (by decide +kernel) ⟨(Nat.le_of_ble_eq_true rfl), (Nat.le_of_ble_eq_true rfl)⟩) (prV hE hK hP hD hS hA [0, 1] rfl rfl 0 0 rfl rfl rfl) rfl rfl hl.1 rfl (lv_room (Nat.le_of_ble_eq_true rfl)) dX0_clearWager_4 ⟨(Nat.le_of_ble_eq_true rfl), (Nat.le_of_ble_eq_true rfl)⟩) hP hD hS hA [0, 1] [] [0, 1] rfl rfl rfl (by decide) rfl rfl (fun H locs hP hD hS => ?_)
  refine lv_aload_n hx hb dX0_clearWager_7 rfl (lv_at hl 0 rfl) ?_
  refine lv_iload_n hx hb dX0_clearWager_8 rfl (lv_at hl 1 rfl) ?_
  refine lv_iconst (v := (3 : Int32)) hx hb dX0_clearWager_9 (by decide) ?_
  refine lv_iconst (v := (0 : Int32)) hx hb dX0_clearWager_10 (by decide) ?_
  obtain ⟨v2, hv2, hF⟩ := oB hF
  refine call_v (wr := []) (wn := [(aC, .inr (0, [.ref aCr])), (aCr, .inl (K 0, 55, .inl v2))]) (va_runV (As := [.int p1, .int (3 : Int32), .int (0 : Int32)]) (rest := []) ⟨hx, hb, hml, hown, hts⟩ (c_X0_setOf l D K aC aCr v1 p1 (3 : Int32) (0 : Int32) v2 hv2 H.size) (cwV 3 hts gX0_clearWager_X0_setOf rfl rfl rfl (by decide +kernel) ⟨(Nat.le_of_ble_eq_true rfl), (Nat.le_of_ble_eq_true rfl)⟩) (prV hE hK hP hD hS hA [0, 1] rfl rfl 0 0 rfl rfl rfl) rfl rfl hl.1 rfl (lv_room (Nat.le_of_ble_eq_true rfl)) dX0_clearWager_11 ⟨(Nat.le_of_ble_eq_true rfl), (Nat.le_of_ble_eq_true rfl)⟩) hP hD hS hA [0, 1] [] [0, 1] rfl rfl rfl (by decide) rfl rfl (fun H locs hP hD hS => ?_)
  refine lv_aload_n hx hb dX0_clearWager_14 rfl (lv_at hl 0 rfl) ?_
  refine lv_iload_n hx hb dX0_clearWager_15 rfl (lv_at hl 1 rfl) ?_
  refine lv_iconst (v := (4 : Int32)) hx hb dX0_clearWager_16 (by decide) ?_
  refine lv_iconst (v := (0 : Int32)) hx hb dX0_clearWager_17 (by decide) ?_
  obtain ⟨v3, hv3, hF⟩ := oB hF
  refine call_v (wr := []) (wn := [(aC, .inr (0, [.ref aCr])), (aCr, .inl (K 0, 55, .inl v3))]) (va_runV (As := [.int p1, .int (4 : Int32), .int (0 : Int32)]) (rest := []) ⟨hx, hb, hml, hown, hts⟩ (c_X0_setOf l D K aC aCr v2 p1 (4 : Int32) (0 : Int32) v3 hv3 H.size) (cwV 3 hts gX0_clearWager_X0_setOf rfl rfl rfl (by decide +kernel) ⟨(Nat.le_of_ble_eq_true rfl), (Nat.le_of_ble_eq_true rfl)⟩) (prV hE hK hP hD hS hA [0, 1] rfl rfl 0 0 rfl rfl rfl) rfl rfl hl.1 rfl (lv_room (Nat.le_of_ble_eq_true rfl)) dX0_clearWager_18 ⟨(Nat.le_of_ble_eq_true rfl), (Nat.le_of_ble_eq_true rfl)⟩) hP hD hS hA [0, 1] [] [0, 1] rfl rfl rfl (by decide) rfl rfl (fun H locs hP hD hS => ?_)
  exact fin_v (u := v3) hF hx hb hr hlocks hK hP hD hS (Nat.le_of_ble_eq_true rfl) (Nat.le_of_ble_eq_true rfl) dX0_clearWager_21
abbrev RM_X0_enroll : Room := { frames := 2, cells := 0, slots := 0, locals := 44 }
abbrev MC_X0_enroll : Nat := 0
abbrev MS_X0_enroll : Nat := 0
abbrev wf_X0_enroll (K : Nat → ClassId) (aC : Nat) (aCr : Nat)  (v : Int32 × (Nat → Int32)) : va_W := [(aC, .inr (0, [.ref aCr])), (aCr, .inl (K 0, 55, .inl v.2))]
set_option maxHeartbeats 4000000 in
set_option maxRecDepth 100000 in
theorem c_X0_enroll (l : Launch) (D : va_G) (K : Nat → ClassId) (aC : Nat) (aCr : Nat) (row : Nat → Int32) (p1 : Int32) (v : Int32 × (Nat → Int32)) (hF : f_X0_enroll row p1 = some v) (sz : Nat) :
    (Met l yX0_enroll wsX0_enroll RM_X0_enroll (PC D (TY K) [(aC, .inr (0, [.ref aCr])), (aCr, .inl (K 0, 55, .inl row))] [.ref aC, .int p1] sz) (QI D (TY K) (wf_X0_enroll K aC aCr) v (va_A [(aC, .inr (0, [.ref aCr])), (aCr, .inl (K 0, 55, .inl row))] sz)) MC_X0_enroll MS_X0_enroll (va_A [(aC, .inr (0, [.ref aCr])), (aCr, .inl (K 0, 55, .inl row))] sz)) := by
  refine pro (Qf := fun A => QI D (TY K) (wf_X0_enroll K aC aCr) v A) (cc := cX0_enroll) (maxL := 3) (ret := (some .int)) (by decide +kernel) rfl (Nat.le_of_ble_eq_true rfl) ?_
  intro p e s m args below meth c hx hb hr hts hown hlocks hml hini hK A hA hE hP hD hS ls hl
  have hown : s.vm.findClass RX0 = some m.cls := hown
  have hl : lv_has ls 3 [(0, .ref aC), (1, .int p1)] := hl
  rw [f_X0_enroll] at hF
  refine lv_aload_n hx hb dX0_enroll_0 rfl (lv_at hl 0 rfl) ?_
  refine va_get (D := D) (ci := 0) (v := .ref aCr) (C := RX0) (T := TX0) (N := 1) hx hb hts (fun _ h => List.mem_cons_of_mem _ (List.mem_append_left _ (List.mem_append_right _ h))) hown hK hP 0 rfl rfl 0 (by decide) (hts (.fieldLink RX0 11 "BarometerClub$Club" "row" "[I") (List.mem_of_getElem? (i := 1) rfl)) (fun _ h9 => h9) rfl dX0_enroll_1 ?_
  refine lv_iconst (v := (0 : Int32)) hx hb dX0_enroll_4 (by decide) ?_
  refine va_iald hx hb hK hP 1 0 rfl rfl (inB_in (by decide : inB (0 : Int32) 55 = true)) dX0_enroll_5 ?_
  refine lv_istore_n (lv' := [(2, .int (row (0 : Int32).toNatClampNeg)), (0, .ref aC), (1, .int p1)]) hx hb dX0_enroll_6 rfl hl (by decide) rfl (fun ls hl => ?_)
  refine lv_aload_n hx hb dX0_enroll_7 rfl (lv_at hl 1 rfl) ?_
  refine lv_iload_n hx hb dX0_enroll_8 rfl (lv_at hl 0 rfl) ?_
  refine lv_iconst (v := (0 : Int32)) hx hb dX0_enroll_9 (by decide) ?_
  refine lv_bipush (v := (50 : Int32)) hx hb dX0_enroll_10 (by decide) ?_
  obtain ⟨v1, hv1, hF⟩ := oB hF
  refine call_v (wr := []) (wn := [(aC, .inr (0, [.ref aCr])), (aCr, .inl (K 0, 55, .inl v1))]) (va_runV (As := [.int (row (0 : Int32).toNatClampNeg), .int (0 : Int32), .int (50 : Int32)]) (rest := []) ⟨hx, hb, hml, hown, hts⟩ (c_X0_setOf l D K aC aCr row (row (0 : Int32).toNatClampNeg) (0 : Int32) (50 : Int32) v1 hv1 s.heap.size) (cwV 3 hts gX0_enroll_X0_setOf rfl rfl rfl (by decide +kernel) ⟨(Nat.le_of_ble_eq_true rfl), (Nat.le_of_ble_eq_true rfl)⟩) (prV hE hK hP hD hS hA [0, 1] rfl rfl 0 0 rfl rfl rfl) rfl rfl hl.1 rfl (lv_room (Nat.le_of_ble_eq_true rfl)) dX0_enroll_12 ⟨(Nat.le_of_ble_eq_true rfl), (Nat.le_of_ble_eq_true rfl)⟩) hP hD hS hA [0, 1] [] [0, 1] rfl rfl rfl (by decide) rfl rfl (fun H locs hP hD hS => ?_)
  refine lv_aload_n hx hb dX0_enroll_15 rfl (lv_at hl 1 rfl) ?_
  refine lv_iload_n hx hb dX0_enroll_16 rfl (lv_at hl 0 rfl) ?_
  refine lv_iconst (v := (1 : Int32)) hx hb dX0_enroll_17 (by decide) ?_
  refine lv_iload_n hx hb dX0_enroll_18 rfl (lv_at hl 2 rfl) ?_
  obtain ⟨v2, hv2, hF⟩ := oB hF
  refine call_v (wr := []) (wn := [(aC, .inr (0, [.ref aCr])), (aCr, .inl (K 0, 55, .inl v2))]) (va_runV (As := [.int (row (0 : Int32).toNatClampNeg), .int (1 : Int32), .int p1]) (rest := []) ⟨hx, hb, hml, hown, hts⟩ (c_X0_setOf l D K aC aCr v1 (row (0 : Int32).toNatClampNeg) (1 : Int32) p1 v2 hv2 H.size) (cwV 3 hts gX0_enroll_X0_setOf rfl rfl rfl (by decide +kernel) ⟨(Nat.le_of_ble_eq_true rfl), (Nat.le_of_ble_eq_true rfl)⟩) (prV hE hK hP hD hS hA [0, 1] rfl rfl 0 0 rfl rfl rfl) rfl rfl hl.1 rfl (lv_room (Nat.le_of_ble_eq_true rfl)) dX0_enroll_19 ⟨(Nat.le_of_ble_eq_true rfl), (Nat.le_of_ble_eq_true rfl)⟩) hP hD hS hA [0, 1] [] [0, 1] rfl rfl rfl (by decide) rfl rfl (fun H locs hP hD hS => ?_)
  refine lv_aload_n hx hb dX0_enroll_22 rfl (lv_at hl 1 rfl) ?_
  refine lv_iload_n hx hb dX0_enroll_23 rfl (lv_at hl 0 rfl) ?_
  refine lv_iconst (v := (5 : Int32)) hx hb dX0_enroll_24 (by decide) ?_
  refine lv_iconst (v := (0 : Int32)) hx hb dX0_enroll_25 (by decide) ?_
  obtain ⟨v3, hv3, hF⟩ := oB hF
  refine call_v (wr := []) (wn := [(aC, .inr (0, [.ref aCr])), (aCr, .inl (K 0, 55, .inl v3))]) (va_runV (As := [.int (row (0 : Int32).toNatClampNeg), .int (5 : Int32), .int (0 : Int32)]) (rest := []) ⟨hx, hb, hml, hown, hts⟩ (c_X0_setOf l D K aC aCr v2 (row (0 : Int32).toNatClampNeg) (5 : Int32) (0 : Int32) v3 hv3 H.size) (cwV 3 hts gX0_enroll_X0_setOf rfl rfl rfl (by decide +kernel) ⟨(Nat.le_of_ble_eq_true rfl), (Nat.le_of_ble_eq_true rfl)⟩) (prV hE hK hP hD hS hA [0, 1] rfl rfl 0 0 rfl rfl rfl) rfl rfl hl.1 rfl (lv_room (Nat.le_of_ble_eq_true rfl)) dX0_enroll_26 ⟨(Nat.le_of_ble_eq_true rfl), (Nat.le_of_ble_eq_true rfl)⟩) hP hD hS hA [0, 1] [] [0, 1] rfl rfl rfl (by decide) rfl rfl (fun H locs hP hD hS => ?_)
  refine lv_aload_n hx hb dX0_enroll_29 rfl (lv_at hl 1 rfl) ?_
  refine lv_iload_n hx hb dX0_enroll_30 rfl (lv_at hl 0 rfl) ?_
  refine lv_bipush (v := (6 : Int32)) hx hb dX0_enroll_31 (by decide) ?_
  refine lv_iconst (v := (0 : Int32)) hx hb dX0_enroll_33 (by decide) ?_
  obtain ⟨v4, hv4, hF⟩ := oB hF
  refine call_v (wr := []) (wn := [(aC, .inr (0, [.ref aCr])), (aCr, .inl (K 0, 55, .inl v4))]) (va_runV (As := [.int (row (0 : Int32).toNatClampNeg), .int (6 : Int32), .int (0 : Int32)]) (rest := []) ⟨hx, hb, hml, hown, hts⟩ (c_X0_setOf l D K aC aCr v3 (row (0 : Int32).toNatClampNeg) (6 : Int32) (0 : Int32) v4 hv4 H.size) (cwV 3 hts gX0_enroll_X0_setOf rfl rfl rfl (by decide +kernel) ⟨(Nat.le_of_ble_eq_true rfl), (Nat.le_of_ble_eq_true rfl)⟩) (prV hE hK hP hD hS hA [0, 1] rfl rfl 0 0 rfl rfl rfl) rfl rfl hl.1 rfl (lv_room (Nat.le_of_ble_eq_true rfl)) dX0_enroll_34 ⟨(Nat.le_of_ble_eq_true rfl), (Nat.le_of_ble_eq_true rfl)⟩) hP hD hS hA [0, 1] [] [0, 1] rfl rfl rfl (by decide) rfl rfl (fun H locs hP hD hS => ?_)
  refine lv_aload_n hx hb dX0_enroll_37 rfl (lv_at hl 1 rfl) ?_
  refine lv_iload_n hx hb dX0_enroll_38 rfl (lv_at hl 0 rfl) ?_
  obtain ⟨v5, hv5, hF⟩ := oB hF
  refine call_v (wr := []) (wn := [(aC, .inr (0, [.ref aCr])), (aCr, .inl (K 0, 55, .inl v5))]) (va_runV (As := [.int (row (0 : Int32).toNatClampNeg)]) (rest := []) ⟨hx, hb, hml, hown, hts⟩ (c_X0_clearWager l D K aC aCr v4 (row (0 : Int32).toNatClampNeg) v5 hv5 H.size) (cwV 1 hts gX0_enroll_X0_clearWager rfl rfl rfl (by decide +kernel) ⟨(Nat.le_of_ble_eq_true rfl), (Nat.le_of_ble_eq_true rfl)⟩) (prV hE hK hP hD hS hA [0, 1] rfl rfl 0 0 rfl rfl rfl) rfl rfl hl.1 rfl (lv_room (Nat.le_of_ble_eq_true rfl)) dX0_enroll_39 ⟨(Nat.le_of_ble_eq_true rfl), (Nat.le_of_ble_eq_true rfl)⟩) hP hD hS hA [0, 1] [] [0, 1] rfl rfl rfl (by decide) rfl rfl (fun H locs hP hD hS => ?_)
  refine lv_aload_n hx hb dX0_enroll_42 rfl (lv_at hl 1 rfl) ?_
  refine lv_bipush (v := (11 : Int32)) hx hb dX0_enroll_43 (by decide) ?_
  refine lv_bipush (v := (50 : Int32)) hx hb dX0_enroll_45 (by decide) ?_
  obtain ⟨v6, hv6, hF⟩ := oB hF
  refine call_v (wr := []) (wn := [(aC, .inr (0, [.ref aCr])), (aCr, .inl (K 0, 55, .inl v6))]) (va_runV (As := [.int (11 : Int32), .int (50 : Int32)]) (rest := []) ⟨hx, hb, hml, hown, hts⟩ (c_X0_add l D K aC aCr v5 (11 : Int32) (50 : Int32) v6 hv6 H.size) (cwV 2 hts gX0_enroll_X0_add rfl rfl rfl (by decide +kernel) ⟨(Nat.le_of_ble_eq_true rfl), (Nat.le_of_ble_eq_true rfl)⟩) (prV hE hK hP hD hS hA [0, 1] rfl rfl 0 0 rfl rfl rfl) rfl rfl hl.1 rfl (lv_room (Nat.le_of_ble_eq_true rfl)) dX0_enroll_47 ⟨(Nat.le_of_ble_eq_true rfl), (Nat.le_of_ble_eq_true rfl)⟩) hP hD hS hA [0, 1] [] [0, 1] rfl rfl rfl (by decide) rfl rfl (fun H locs hP hD hS => ?_)
  refine lv_aload_n hx hb dX0_enroll_50 rfl (lv_at hl 1 rfl) ?_
  refine lv_iconst (v := (0 : Int32)) hx hb dX0_enroll_51 (by decide) ?_
  refine lv_iconst (v := (1 : Int32)) hx hb dX0_enroll_52 (by decide) ?_
  obtain ⟨v7, hv7, hF⟩ := oB hF
  refine call_v (wr := []) (wn := [(aC, .inr (0, [.ref aCr])), (aCr, .inl (K 0, 55, .inl v7))]) (va_runV (As := [.int (0 : Int32), .int (1 : Int32)]) (rest := []) ⟨hx, hb, hml, hown, hts⟩ (c_X0_add l D K aC aCr v6 (0 : Int32) (1 : Int32) v7 hv7 H.size) (cwV 2 hts gX0_enroll_X0_add rfl rfl rfl (by decide +kernel) ⟨(Nat.le_of_ble_eq_true rfl), (Nat.le_of_ble_eq_true rfl)⟩) (prV hE hK hP hD hS hA [0, 1] rfl rfl 0 0 rfl rfl rfl) rfl rfl hl.1 rfl (lv_room (Nat.le_of_ble_eq_true rfl)) dX0_enroll_53 ⟨(Nat.le_of_ble_eq_true rfl), (Nat.le_of_ble_eq_true rfl)⟩) hP hD hS hA [0, 1] [] [0, 1] rfl rfl rfl (by decide) rfl rfl (fun H locs hP hD hS => ?_)
  refine lv_iload_n hx hb dX0_enroll_56 rfl (lv_at hl 0 rfl) ?_
  exact fin_i (u := (row (0 : Int32).toNatClampNeg, v7)) hF hx hb hr hlocks hK hP hD hS (Nat.le_of_ble_eq_true rfl) (Nat.le_of_ble_eq_true rfl) dX0_enroll_57
abbrev RM_X0_dismiss : Room := { frames := 2, cells := 0, slots := 0, locals := 44 }
abbrev MC_X0_dismiss : Nat := 0
abbrev MS_X0_dismiss : Nat := 0
abbrev wf_X0_dismiss (K : Nat → ClassId) (aC : Nat) (aCr : Nat)  (v : Int32 × (Nat → Int32)) : va_W := [(aC, .inr (0, [.ref aCr])), (aCr, .inl (K 0, 55, .inl v.2))]
set_option maxHeartbeats 4000000 in
set_option maxRecDepth 100000 in
theorem c_X0_dismiss (l : Launch) (D : va_G) (K : Nat → ClassId) (aC : Nat) (aCr : Nat) (row : Nat → Int32) (p1 : Int32) (v : Int32 × (Nat → Int32)) (hF : f_X0_dismiss row p1 = some v) (sz : Nat) :
    (Met l yX0_dismiss wsX0_dismiss RM_X0_dismiss (PC D (TY K) [(aC, .inr (0, [.ref aCr])), (aCr, .inl (K 0, 55, .inl row))] [.ref aC, .int p1] sz) (QI D (TY K) (wf_X0_dismiss K aC aCr) v (va_A [(aC, .inr (0, [.ref aCr])), (aCr, .inl (K 0, 55, .inl row))] sz)) MC_X0_dismiss MS_X0_dismiss (va_A [(aC, .inr (0, [.ref aCr])), (aCr, .inl (K 0, 55, .inl row))] sz)) := by
  refine pro (Qf := fun A => QI D (TY K) (wf_X0_dismiss K aC aCr) v A) (cc := cX0_dismiss) (maxL := 5) (ret := (some .int)) (by decide +kernel) rfl (Nat.le_of_ble_eq_true rfl) ?_
  intro p e s m args below meth c hx hb hr hts hown hlocks hml hini hK A hA hE hP hD hS ls hl
  have hown : s.vm.findClass RX0 = some m.cls := hown
  have hl : lv_has ls 5 [(0, .ref aC), (1, .int p1)] := hl
  have loop_35 : ∀ (y35_2 : Int32) (y35_3 : Int32) (u : Int32 × (Nat → Int32)) (n : Nat) (y35_4 : Int32) (row_35 : Nat → Int32), f_X0_dismiss_L35 y35_3 n y35_4 row_35 = some u → (∀ (H : Heap) (locs : List Loc), va_P D vwC7 [(aC, .inr (0, [.ref aCr])), (aCr, .inl (K 0, 55, .inl u.2))] H → va_D A [(aC, .inr (0, [.ref aCr])), (aCr, .inl (K 0, 55, .inl u.2))] → va_S A s.heap H locs → ∀ ls : Array Slot, lv_has ls 5 [(0, .ref aC), (2, .int y35_2), (3, .int y35_3), (4, .int u.1)] → W p l e RM_X0_dismiss s m args below meth c H locs 0 0 (MQ below (QI D (TY K) (wf_X0_dismiss K aC aCr) v A) args s MC_X0_dismiss MS_X0_dismiss A) (F0 m 64 ls [])) → ∀ (H : Heap) (locs : List Loc), va_P D vwC7 [(aC, .inr (0, [.ref aCr])), (aCr, .inl (K 0, 55, .inl row_35))] H → va_D A [(aC, .inr (0, [.ref aCr])), (aCr, .inl (K 0, 55, .inl row_35))] → va_S A s.heap H locs → ∀ ls : Array Slot, lv_has ls 5 [(0, .ref aC), (2, .int y35_2), (3, .int y35_3), (4, .int y35_4)] → W p l e RM_X0_dismiss s m args below meth c H locs 0 0 (MQ below (QI D (TY K) (wf_X0_dismiss K aC aCr) v A) args s MC_X0_dismiss MS_X0_dismiss A) (F0 m 35 ls []) := by
    intro y35_2 y35_3 u n
    induction n with
    | zero =>
      intro y35_4 row_35 hF
      exact nomatch hF
    | succ n ih =>
      intro y35_4 row_35 hF kx H locs hP hD hS ls hl
      rw [f_X0_dismiss_L35.eq_2] at hF
      refine lv_iload hx hb dX0_dismiss_35 (lv_at hl 3 rfl) ?_
      refine lv_bipush (v := (7 : Int32)) hx hb dX0_dismiss_37 (by decide) ?_
      refine lv_icmp_ge (tgt := 64) hx hb dX0_dismiss_39 (by decide) (fun c5 => ?_) (fun c5 => ?_)
      · have hF := oT c5 hF
        cases hF
        exact kx _ _ hP hD hS _ (lv_sub hl [0, 1, 2, 3] rfl)
      · have hF := oF c5 hF
        refine lv_aload_n hx hb dX0_dismiss_42 rfl (lv_at hl 0 rfl) ?_
        refine lv_iload_n hx hb dX0_dismiss_43 rfl (lv_at hl 2 rfl) ?_
        refine lv_iload hx hb dX0_dismiss_44 (lv_at hl 3 rfl) ?_
        refine lv_aload_n hx hb dX0_dismiss_46 rfl (lv_at hl 0 rfl) ?_
        refine lv_iload_n hx hb dX0_dismiss_47 rfl (lv_at hl 2 rfl) ?_
        refine lv_iconst (v := (1 : Int32)) hx hb dX0_dismiss_48 (by decide) ?_
        refine lv_iadd hx hb dX0_dismiss_49 ?_
        refine lv_iload hx hb dX0_dismiss_50 (lv_at hl 3 rfl) ?_
        obtain ⟨v6, hv6, hF⟩ := oB hF
        refine call_i (wr := []) (wn := [(aC, .inr (0, [.ref aCr])), (aCr, .inl (K 0, 55, .inl row_35))]) (va_runV (As := [.int (y35_3 + (1 : Int32)), .int y35_4]) (rest := [.int y35_4, .int y35_3, .ref aC]) ⟨hx, hb, hml, hown, hts⟩ (c_X0_of l D K aC aCr row_35 (y35_3 + (1 : Int32)) y35_4 v6 hv6 H.size) (cwV 2 hts gX0_dismiss_X0_of rfl rfl rfl (by decide +kernel) ⟨(Nat.le_of_ble_eq_true rfl), (Nat.le_of_ble_eq_true rfl)⟩) (prV hE hK hP hD hS hA [0, 1] rfl rfl 0 0 rfl rfl rfl) rfl rfl hl.1 rfl (lv_room (Nat.le_of_ble_eq_true rfl)) dX0_dismiss_52 ⟨(Nat.le_of_ble_eq_true rfl), (Nat.le_of_ble_eq_true rfl)⟩) hP hD hS hA [0, 1] [] [0, 1] rfl rfl rfl (by decide) rfl rfl (fun H locs hP hD hS => ?_)
        obtain ⟨v7, hv7, hF⟩ := oB hF
        refine call_v (wr := []) (wn := [(aC, .inr (0, [.ref aCr])), (aCr, .inl (K 0, 55, .inl v7))]) (va_runV (As := [.int y35_3, .int y35_4, .int v6.1]) (rest := []) ⟨hx, hb, hml, hown, hts⟩ (c_X0_setOf l D K aC aCr row_35 y35_3 y35_4 v6.1 v7 hv7 H.size) (cwV 3 hts gX0_dismiss_X0_setOf rfl rfl rfl (by decide +kernel) ⟨(Nat.le_of_ble_eq_true rfl), (Nat.le_of_ble_eq_true rfl)⟩) (prV hE hK hP hD hS hA [0, 1] rfl rfl 0 0 rfl rfl rfl) rfl rfl hl.1 rfl (lv_room (Nat.le_of_ble_eq_true rfl)) dX0_dismiss_55 ⟨(Nat.le_of_ble_eq_true rfl), (Nat.le_of_ble_eq_true rfl)⟩) hP hD hS hA [0, 1] [] [0, 1] rfl rfl rfl (by decide) rfl rfl (fun H locs hP hD hS => ?_)
        refine lv_iinc (v := y35_4 + (1 : Int32)) (lv' := [(4, .int (y35_4 + (1 : Int32))), (0, .ref aC), (2, .int y35_2), (3, .int y35_3)]) hx hb dX0_dismiss_58 hl (k := 3) rfl (by first | rfl | decide) (by decide) rfl (fun ls hl => ?_)
        refine lv_goto (tgt := 35) hx hb dX0_dismiss_61 (by decide) ?_
        exact ih (y35_4 + (1 : Int32)) v7 hF kx _ _ hP hD hS _ (lv_sub hl [1, 2, 3, 0] rfl)
  have loop_22 : ∀ (y22_2 : Int32) (n : Nat) (y22_3 : Int32) (row_22 : Nat → Int32), f_X0_dismiss_L22 y22_2 n y22_3 row_22 = some v → ∀ (H : Heap) (locs : List Loc), va_P D vwC7 [(aC, .inr (0, [.ref aCr])), (aCr, .inl (K 0, 55, .inl row_22))] H → va_D A [(aC, .inr (0, [.ref aCr])), (aCr, .inl (K 0, 55, .inl row_22))] → va_S A s.heap H locs → ∀ ls : Array Slot, lv_has ls 5 [(0, .ref aC), (2, .int y22_2), (3, .int y22_3)] → W p l e RM_X0_dismiss s m args below meth c H locs 0 0 (MQ below (QI D (TY K) (wf_X0_dismiss K aC aCr) v A) args s MC_X0_dismiss MS_X0_dismiss A) (F0 m 22 ls []) := by
    intro y22_2 n
    induction n with
    | zero =>
      intro y22_3 row_22 hF
      exact nomatch hF
    | succ n ih =>
      intro y22_3 row_22 hF H locs hP hD hS ls hl
      rw [f_X0_dismiss_L22.eq_2] at hF
      refine lv_iload_n hx hb dX0_dismiss_22 rfl (lv_at hl 2 rfl) ?_
      refine lv_aload_n hx hb dX0_dismiss_23 rfl (lv_at hl 0 rfl) ?_
      refine va_get (D := D) (ci := 0) (v := .ref aCr) (C := RX0) (T := TX0) (N := 1) hx hb hts (fun _ h => List.mem_cons_of_mem _ (List.mem_append_left _ (List.mem_append_right _ h))) hown hK hP 0 rfl rfl 0 (by decide) (hts (.fieldLink RX0 11 "BarometerClub$Club" "row" "[I") (List.mem_of_getElem? (i := 1) rfl)) (fun _ h9 => h9) rfl dX0_dismiss_24 ?_
      refine lv_iconst (v := (0 : Int32)) hx hb dX0_dismiss_27 (by decide) ?_
      refine va_iald hx hb hK hP 1 0 rfl rfl (inB_in (by decide : inB (0 : Int32) 55 = true)) dX0_dismiss_28 ?_
      refine lv_icmp_ge (tgt := 70) hx hb dX0_dismiss_29 (by decide) (fun c4 => ?_) (fun c4 => ?_)
      · have hF := oT c4 hF
        refine lv_iload_n hx hb dX0_dismiss_70 rfl (lv_at hl 1 rfl) ?_
        exact fin_i (u := (y22_2, row_22)) hF hx hb hr hlocks hK hP hD hS (Nat.le_of_ble_eq_true rfl) (Nat.le_of_ble_eq_true rfl) dX0_dismiss_71
      · have hF := oF c4 hF
        refine lv_iconst (v := (0 : Int32)) hx hb dX0_dismiss_32 (by decide) ?_
        refine lv_istore (lv' := [(4, .int (0 : Int32)), (0, .ref aC), (2, .int y22_2), (3, .int y22_3)]) hx hb dX0_dismiss_33 hl (by decide) rfl (fun ls hl => ?_)
        obtain ⟨u8, hu8, hF⟩ := oB hF
        refine loop_35 y22_2 y22_3 u8 FU (0 : Int32) row_22 hu8 (fun H locs hP hD hS ls hl => ?_) _ _ hP hD hS _ (lv_sub hl [1, 2, 3, 0] rfl)
        refine lv_iinc (v := y22_3 + (1 : Int32)) (lv' := [(3, .int (y22_3 + (1 : Int32))), (0, .ref aC), (2, .int y22_2), (4, .int u8.1)]) hx hb dX0_dismiss_64 hl (k := 2) rfl (by first | rfl | decide) (by decide) rfl (fun ls hl => ?_)
        refine lv_goto (tgt := 22) hx hb dX0_dismiss_67 (by decide) ?_
        exact ih (y22_3 + (1 : Int32)) u8.2 hF _ _ hP hD hS _ (lv_sub hl [1, 2, 0] rfl)
  rw [f_X0_dismiss] at hF
  refine lv_aload_n hx hb dX0_dismiss_0 rfl (lv_at hl 0 rfl) ?_
  refine lv_iload_n hx hb dX0_dismiss_1 rfl (lv_at hl 1 rfl) ?_
  refine lv_iconst (v := (0 : Int32)) hx hb dX0_dismiss_2 (by decide) ?_
  obtain ⟨v1, hv1, hF⟩ := oB hF
  refine call_i (wr := []) (wn := [(aC, .inr (0, [.ref aCr])), (aCr, .inl (K 0, 55, .inl row))]) (va_runV (As := [.int p1, .int (0 : Int32)]) (rest := []) ⟨hx, hb, hml, hown, hts⟩ (c_X0_of l D K aC aCr row p1 (0 : Int32) v1 hv1 s.heap.size) (cwV 2 hts gX0_dismiss_X0_of rfl rfl rfl (by decide +kernel) ⟨(Nat.le_of_ble_eq_true rfl), (Nat.le_of_ble_eq_true rfl)⟩) (prV hE hK hP hD hS hA [0, 1] rfl rfl 0 0 rfl rfl rfl) rfl rfl hl.1 rfl (lv_room (Nat.le_of_ble_eq_true rfl)) dX0_dismiss_3 ⟨(Nat.le_of_ble_eq_true rfl), (Nat.le_of_ble_eq_true rfl)⟩) hP hD hS hA [0, 1] [] [0, 1] rfl rfl rfl (by decide) rfl rfl (fun H locs hP hD hS => ?_)
  refine lv_istore_n (lv' := [(2, .int v1.1), (0, .ref aC), (1, .int p1)]) hx hb dX0_dismiss_6 rfl hl (by decide) rfl (fun ls hl => ?_)
  refine lv_aload_n hx hb dX0_dismiss_7 rfl (lv_at hl 1 rfl) ?_
  refine lv_bipush (v := (12 : Int32)) hx hb dX0_dismiss_8 (by decide) ?_
  refine lv_iload_n hx hb dX0_dismiss_10 rfl (lv_at hl 0 rfl) ?_
  obtain ⟨v2, hv2, hF⟩ := oB hF
  refine call_v (wr := []) (wn := [(aC, .inr (0, [.ref aCr])), (aCr, .inl (K 0, 55, .inl v2))]) (va_runV (As := [.int (12 : Int32), .int v1.1]) (rest := []) ⟨hx, hb, hml, hown, hts⟩ (c_X0_add l D K aC aCr row (12 : Int32) v1.1 v2 hv2 H.size) (cwV 2 hts gX0_dismiss_X0_add rfl rfl rfl (by decide +kernel) ⟨(Nat.le_of_ble_eq_true rfl), (Nat.le_of_ble_eq_true rfl)⟩) (prV hE hK hP hD hS hA [0, 1] rfl rfl 0 0 rfl rfl rfl) rfl rfl hl.1 rfl (lv_room (Nat.le_of_ble_eq_true rfl)) dX0_dismiss_11 ⟨(Nat.le_of_ble_eq_true rfl), (Nat.le_of_ble_eq_true rfl)⟩) hP hD hS hA [0, 1] [] [0, 1] rfl rfl rfl (by decide) rfl rfl (fun H locs hP hD hS => ?_)
  refine lv_aload_n hx hb dX0_dismiss_14 rfl (lv_at hl 1 rfl) ?_
  refine lv_iconst (v := (0 : Int32)) hx hb dX0_dismiss_15 (by decide) ?_
  refine lv_iconst (v := (-1 : Int32)) hx hb dX0_dismiss_16 (by decide) ?_
  obtain ⟨v3, hv3, hF⟩ := oB hF
  refine call_v (wr := []) (wn := [(aC, .inr (0, [.ref aCr])), (aCr, .inl (K 0, 55, .inl v3))]) (va_runV (As := [.int (0 : Int32), .int (-1 : Int32)]) (rest := []) ⟨hx, hb, hml, hown, hts⟩ (c_X0_add l D K aC aCr v2 (0 : Int32) (-1 : Int32) v3 hv3 H.size) (cwV 2 hts gX0_dismiss_X0_add rfl rfl rfl (by decide +kernel) ⟨(Nat.le_of_ble_eq_true rfl), (Nat.le_of_ble_eq_true rfl)⟩) (prV hE hK hP hD hS hA [0, 1] rfl rfl 0 0 rfl rfl rfl) rfl rfl hl.1 rfl (lv_room (Nat.le_of_ble_eq_true rfl)) dX0_dismiss_17 ⟨(Nat.le_of_ble_eq_true rfl), (Nat.le_of_ble_eq_true rfl)⟩) hP hD hS hA [0, 1] [] [0, 1] rfl rfl rfl (by decide) rfl rfl (fun H locs hP hD hS => ?_)
  refine lv_iload_n hx hb dX0_dismiss_20 rfl (lv_at hl 2 rfl) ?_
  refine lv_istore_n (lv' := [(3, .int p1), (2, .int v1.1), (0, .ref aC), (1, .int p1)]) hx hb dX0_dismiss_21 rfl hl (by decide) rfl (fun ls hl => ?_)
  exact loop_22 v1.1 FU p1 v3 hF _ _ hP hD hS _ (lv_sub hl [2, 1, 0] rfl)
abbrev RM_X0_payIntoPot : Room := { frames := 2, cells := 0, slots := 0, locals := 46 }
abbrev MC_X0_payIntoPot : Nat := 0
abbrev MS_X0_payIntoPot : Nat := 0
abbrev wf_X0_payIntoPot (K : Nat → ClassId) (aC : Nat) (aCr : Nat)  (v : (Nat → Int32)) : va_W := [(aC, .inr (0, [.ref aCr])), (aCr, .inl (K 0, 55, .inl v))]
set_option maxHeartbeats 4000000 in
set_option maxRecDepth 100000 in
theorem c_X0_payIntoPot (l : Launch) (D : va_G) (K : Nat → ClassId) (aC : Nat) (aCr : Nat) (row : Nat → Int32) (p1 : Int32) (p2 : Int32) (v : (Nat → Int32)) (hF : f_X0_payIntoPot row p1 p2 = some v) (sz : Nat) :
    (Met l yX0_payIntoPot wsX0_payIntoPot RM_X0_payIntoPot (PC D (TY K) [(aC, .inr (0, [.ref aCr])), (aCr, .inl (K 0, 55, .inl row))] [.ref aC, .int p1, .int p2] sz) (QV D (TY K) (wf_X0_payIntoPot K aC aCr) v (va_A [(aC, .inr (0, [.ref aCr])), (aCr, .inl (K 0, 55, .inl row))] sz)) MC_X0_payIntoPot MS_X0_payIntoPot (va_A [(aC, .inr (0, [.ref aCr])), (aCr, .inl (K 0, 55, .inl row))] sz)) := by
  refine pro (Qf := fun A => QV D (TY K) (wf_X0_payIntoPot K aC aCr) v A) (cc := cX0_payIntoPot) (maxL := 3) (ret := none) (by decide +kernel) rfl (Nat.le_of_ble_eq_true rfl) ?_
  intro p e s m args below meth c hx hb hr hts hown hlocks hml hini hK A hA hE hP hD hS ls hl
  have hown : s.vm.findClass RX0 = some m.cls := hown
  have hl : lv_has ls 3 [(0, .ref aC), (1, .int p1), (2, .int p2)] := hl
  rw [f_X0_payIntoPot] at hF
  refine lv_aload_n hx hb dX0_payIntoPot_0 rfl (lv_at hl 0 rfl) ?_
  refine lv_iload_n hx hb dX0_payIntoPot_1 rfl (lv_at hl 1 rfl) ?_
  refine lv_iconst (v := (0 : Int32)) hx hb dX0_payIntoPot_2 (by decide) ?_
  refine lv_iload_n hx hb dX0_payIntoPot_3 rfl (lv_at hl 2 rfl) ?_
  refine lv_ineg hx hb dX0_payIntoPot_4 ?_
  obtain ⟨v1, hv1, hF⟩ := oB hF
  refine call_v (wr := []) (wn := [(aC, .inr (0, [.ref aCr])), (aCr, .inl (K 0, 55, .inl v1))]) (va_runV (As := [.int p1, .int (0 : Int32), .int (-p2)]) (rest := []) ⟨hx, hb, hml, hown, hts⟩ (c_X0_addOf l D K aC aCr row p1 (0 : Int32) (-p2) v1 hv1 s.heap.size) (cwV 3 hts gX0_payIntoPot_X0_addOf rfl rfl rfl (by decide +kernel) ⟨(Nat.le_of_ble_eq_true rfl), (Nat.le_of_ble_eq_true rfl)⟩) (prV hE hK hP hD hS hA [0, 1] rfl rfl 0 0 rfl rfl rfl) rfl rfl hl.1 rfl (lv_room (Nat.le_of_ble_eq_true rfl)) dX0_payIntoPot_5 ⟨(Nat.le_of_ble_eq_true rfl), (Nat.le_of_ble_eq_true rfl)⟩) hP hD hS hA [0, 1] [] [0, 1] rfl rfl rfl (by decide) rfl rfl (fun H locs hP hD hS => ?_)
  refine lv_aload_n hx hb dX0_payIntoPot_8 rfl (lv_at hl 0 rfl) ?_
  refine lv_bipush (v := (7 : Int32)) hx hb dX0_payIntoPot_9 (by decide) ?_
  refine lv_iload_n hx hb dX0_payIntoPot_11 rfl (lv_at hl 2 rfl) ?_
  obtain ⟨v2, hv2, hF⟩ := oB hF
  refine call_v (wr := []) (wn := [(aC, .inr (0, [.ref aCr])), (aCr, .inl (K 0, 55, .inl v2))]) (va_runV (As := [.int (7 : Int32), .int p2]) (rest := []) ⟨hx, hb, hml, hown, hts⟩ (c_X0_add l D K aC aCr v1 (7 : Int32) p2 v2 hv2 H.size) (cwV 2 hts gX0_payIntoPot_X0_add rfl rfl rfl (by decide +kernel) ⟨(Nat.le_of_ble_eq_true rfl), (Nat.le_of_ble_eq_true rfl)⟩) (prV hE hK hP hD hS hA [0, 1] rfl rfl 0 0 rfl rfl rfl) rfl rfl hl.1 rfl (lv_room (Nat.le_of_ble_eq_true rfl)) dX0_payIntoPot_12 ⟨(Nat.le_of_ble_eq_true rfl), (Nat.le_of_ble_eq_true rfl)⟩) hP hD hS hA [0, 1] [] [0, 1] rfl rfl rfl (by decide) rfl rfl (fun H locs hP hD hS => ?_)
  exact fin_v (u := v2) hF hx hb hr hlocks hK hP hD hS (Nat.le_of_ble_eq_true rfl) (Nat.le_of_ble_eq_true rfl) dX0_payIntoPot_15
abbrev RM_X0_changePressure : Room := { frames := 2, cells := 0, slots := 0, locals := 44 }
abbrev MC_X0_changePressure : Nat := 0
abbrev MS_X0_changePressure : Nat := 0
abbrev wf_X0_changePressure (K : Nat → ClassId) (aC : Nat) (aCr : Nat)  (v : (Nat → Int32)) : va_W := [(aC, .inr (0, [.ref aCr])), (aCr, .inl (K 0, 55, .inl v))]
set_option maxHeartbeats 4000000 in
set_option maxRecDepth 100000 in
theorem c_X0_changePressure (l : Launch) (D : va_G) (K : Nat → ClassId) (aC : Nat) (aCr : Nat) (row : Nat → Int32) (p1 : Int32) (v : (Nat → Int32)) (hF : f_X0_changePressure row p1 = some v) (sz : Nat) :
    (Met l yX0_changePressure wsX0_changePressure RM_X0_changePressure (PC D (TY K) [(aC, .inr (0, [.ref aCr])), (aCr, .inl (K 0, 55, .inl row))] [.ref aC, .int p1] sz) (QV D (TY K) (wf_X0_changePressure K aC aCr) v (va_A [(aC, .inr (0, [.ref aCr])), (aCr, .inl (K 0, 55, .inl row))] sz)) MC_X0_changePressure MS_X0_changePressure (va_A [(aC, .inr (0, [.ref aCr])), (aCr, .inl (K 0, 55, .inl row))] sz)) := by
  refine pro (Qf := fun A => QV D (TY K) (wf_X0_changePressure K aC aCr) v A) (cc := cX0_changePressure) (maxL := 2) (ret := none) (by decide +kernel) rfl (Nat.le_of_ble_eq_true rfl) ?_
  intro p e s m args below meth c hx hb hr hts hown hlocks hml hini hK A hA hE hP hD hS ls hl
  have hown : s.vm.findClass RX0 = some m.cls := hown
  have hl : lv_has ls 2 [(0, .ref aC), (1, .int p1)] := hl
  rw [f_X0_changePressure] at hF
  refine lv_aload_n hx hb dX0_changePressure_0 rfl (lv_at hl 0 rfl) ?_
  refine lv_iconst (v := (1 : Int32)) hx hb dX0_changePressure_1 (by decide) ?_
  refine lv_iload_n hx hb dX0_changePressure_2 rfl (lv_at hl 1 rfl) ?_
  obtain ⟨v1, hv1, hF⟩ := oB hF
  refine call_v (wr := []) (wn := [(aC, .inr (0, [.ref aCr])), (aCr, .inl (K 0, 55, .inl v1))]) (va_runV (As := [.int (1 : Int32), .int p1]) (rest := []) ⟨hx, hb, hml, hown, hts⟩ (c_X0_add l D K aC aCr row (1 : Int32) p1 v1 hv1 s.heap.size) (cwV 2 hts gX0_changePressure_X0_add rfl rfl rfl (by decide +kernel) ⟨(Nat.le_of_ble_eq_true rfl), (Nat.le_of_ble_eq_true rfl)⟩) (prV hE hK hP hD hS hA [0, 1] rfl rfl 0 0 rfl rfl rfl) rfl rfl hl.1 rfl (lv_room (Nat.le_of_ble_eq_true rfl)) dX0_changePressure_3 ⟨(Nat.le_of_ble_eq_true rfl), (Nat.le_of_ble_eq_true rfl)⟩) hP hD hS hA [0, 1] [] [0, 1] rfl rfl rfl (by decide) rfl rfl (fun H locs hP hD hS => ?_)
  refine lv_aload_n hx hb dX0_changePressure_6 rfl (lv_at hl 0 rfl) ?_
  refine lv_iconst (v := (2 : Int32)) hx hb dX0_changePressure_7 (by decide) ?_
  refine lv_iload_n hx hb dX0_changePressure_8 rfl (lv_at hl 1 rfl) ?_
  obtain ⟨v2, hv2, hF⟩ := oB hF
  refine call_v (wr := []) (wn := [(aC, .inr (0, [.ref aCr])), (aCr, .inl (K 0, 55, .inl v2))]) (va_runV (As := [.int (2 : Int32), .int p1]) (rest := []) ⟨hx, hb, hml, hown, hts⟩ (c_X0_set l D K aC aCr v1 (2 : Int32) p1 v2 hv2 H.size) (cwV 2 hts gX0_changePressure_X0_set rfl rfl rfl (by decide +kernel) ⟨(Nat.le_of_ble_eq_true rfl), (Nat.le_of_ble_eq_true rfl)⟩) (prV hE hK hP hD hS hA [0, 1] rfl rfl 0 0 rfl rfl rfl) rfl rfl hl.1 rfl (lv_room (Nat.le_of_ble_eq_true rfl)) dX0_changePressure_9 ⟨(Nat.le_of_ble_eq_true rfl), (Nat.le_of_ble_eq_true rfl)⟩) hP hD hS hA [0, 1] [] [0, 1] rfl rfl rfl (by decide) rfl rfl (fun H locs hP hD hS => ?_)
  refine lv_aload_n hx hb dX0_changePressure_12 rfl (lv_at hl 0 rfl) ?_
  refine lv_iconst (v := (3 : Int32)) hx hb dX0_changePressure_13 (by decide) ?_
  refine lv_iconst (v := (0 : Int32)) hx hb dX0_changePressure_14 (by decide) ?_
  obtain ⟨v3, hv3, hF⟩ := oB hF
  refine call_v (wr := []) (wn := [(aC, .inr (0, [.ref aCr])), (aCr, .inl (K 0, 55, .inl v3))]) (va_runV (As := [.int (3 : Int32), .int (0 : Int32)]) (rest := []) ⟨hx, hb, hml, hown, hts⟩ (c_X0_set l D K aC aCr v2 (3 : Int32) (0 : Int32) v3 hv3 H.size) (cwV 2 hts gX0_changePressure_X0_set rfl rfl rfl (by decide +kernel) ⟨(Nat.le_of_ble_eq_true rfl), (Nat.le_of_ble_eq_true rfl)⟩) (prV hE hK hP hD hS hA [0, 1] rfl rfl 0 0 rfl rfl rfl) rfl rfl hl.1 rfl (lv_room (Nat.le_of_ble_eq_true rfl)) dX0_changePressure_15 ⟨(Nat.le_of_ble_eq_true rfl), (Nat.le_of_ble_eq_true rfl)⟩) hP hD hS hA [0, 1] [] [0, 1] rfl rfl rfl (by decide) rfl rfl (fun H locs hP hD hS => ?_)
  exact fin_v (u := v3) hF hx hb hr hlocks hK hP hD hS (Nat.le_of_ble_eq_true rfl) (Nat.le_of_ble_eq_true rfl) dX0_changePressure_18
abbrev RM_X7_held : Room := { frames := 1, cells := 0, slots := 0, locals := 21 }
abbrev MC_X7_held : Nat := 0
abbrev MS_X7_held : Nat := 0
abbrev wf_X7_held (K : Nat → ClassId)   (v : Int32 × Unit) : va_W := []
set_option maxHeartbeats 4000000 in
set_option maxRecDepth 100000 in
theorem c_X7_held (l : Launch) (D : va_G) (K : Nat → ClassId)   (p1 : Int32) (p2 : Int32) (p3 : Int32) (v : Int32 × Unit) (hF : f_X7_held p1 p2 p3 = some v) (sz : Nat) :
    (Met l yX7_held wsX7_held RM_X7_held (PC D (TY K) [] [.int p1, .int p2, .int p3] sz) (QI D (TY K) (wf_X7_held K) v (va_A [] sz)) MC_X7_held MS_X7_held (va_A [] sz)) := by
  refine pro (Qf := fun A => QI D (TY K) (wf_X7_held K) v A) (cc := cX7_held) (maxL := 3) (ret := (some .int)) (by decide +kernel) rfl (Nat.le_of_ble_eq_true rfl) ?_
  intro p e s m args below meth c hx hb hr hts hown hlocks hml hini hK A hA hE hP hD hS ls hl
  have hown : s.vm.findClass RX7 = some m.cls := hown
  have hl : lv_has ls 3 [(0, .int p1), (1, .int p2), (2, .int p3)] := hl
  rw [f_X7_held] at hF
  refine lv_iload_n hx hb dX7_held_0 rfl (lv_at hl 1 rfl) ?_
  refine lv_iload_n hx hb dX7_held_1 rfl (lv_at hl 2 rfl) ?_
  refine lv_iload_n hx hb dX7_held_2 rfl (lv_at hl 0 rfl) ?_
  refine va_mmin hx hb (hml.trans hl.1.symm) hown (hts (.methodLink RX7 293 Lib.Math.min.name) (List.mem_of_getElem? (i := 1) rfl)) (hts (.static Lib.Math.min.name) (List.mem_of_getElem? (i := 2) rfl)) (hts (.initialized "java/lang/Math") (List.mem_of_getElem? (i := 3) rfl)) (hts (.code Lib.Math.min.name Lib.Math.min.code 2 (some .int)) (List.mem_of_getElem? (i := 4) rfl)) (Nat.le_of_ble_eq_true rfl) (Nat.le_of_ble_eq_true rfl) (Nat.le_of_ble_eq_true rfl) (Nat.le_of_ble_eq_true rfl) dX7_held_3 ?_
  refine W.eq (g2 := F0 m 6 ls [.int (jmin p3 p1), .int p2]) rfl ?_
  refine va_mmax hx hb (hml.trans hl.1.symm) hown (hts (.methodLink RX7 298 Lib.Math.max.name) (List.mem_of_getElem? (i := 5) rfl)) (hts (.static Lib.Math.max.name) (List.mem_of_getElem? (i := 6) rfl)) (hts (.initialized "java/lang/Math") (List.mem_of_getElem? (i := 3) rfl)) (hts (.code Lib.Math.max.name Lib.Math.max.code 2 (some .int)) (List.mem_of_getElem? (i := 7) rfl)) (Nat.le_of_ble_eq_true rfl) (Nat.le_of_ble_eq_true rfl) (Nat.le_of_ble_eq_true rfl) (Nat.le_of_ble_eq_true rfl) dX7_held_6 ?_
  refine W.eq (g2 := F0 m 9 ls [.int (jmax p2 (jmin p3 p1))]) rfl ?_
  exact fin_i (u := (jmax p2 (jmin p3 p1), ())) hF hx hb hr hlocks hK hP hD hS (Nat.le_of_ble_eq_true rfl) (Nat.le_of_ble_eq_true rfl) dX7_held_9
abbrev RM_J6_bitCount_0f7a4 : Room := { frames := 0, cells := 0, slots := 0, locals := 0 }
abbrev MC_J6_bitCount_0f7a4 : Nat := 0
abbrev MS_J6_bitCount_0f7a4 : Nat := 0
abbrev wf_J6_bitCount_0f7a4 (K : Nat → ClassId)   (v : Int32 × Unit) : va_W := []
set_option maxHeartbeats 4000000 in
set_option maxRecDepth 100000 in
theorem c_J6_bitCount_0f7a4 (l : Launch) (D : va_G) (K : Nat → ClassId)   (p1 : Int32) (v : Int32 × Unit) (hF : f_J6_bitCount_0f7a4 p1 = some v) (sz : Nat) :
    (Met l yJ6_bitCount_0f7a4 wsJ6_bitCount_0f7a4 RM_J6_bitCount_0f7a4 (PC D (TY K) [] [.int p1] sz) (QI D (TY K) (wf_J6_bitCount_0f7a4 K) v (va_A [] sz)) MC_J6_bitCount_0f7a4 MS_J6_bitCount_0f7a4 (va_A [] sz)) := by
  refine pro (Qf := fun A => QI D (TY K) (wf_J6_bitCount_0f7a4 K) v A) (cc := cJ6_bitCount_0f7a4) (maxL := 1) (ret := (some .int)) (by decide +kernel) rfl (Nat.le_of_ble_eq_true rfl) ?_
  intro p e s m args below meth c hx hb hr hts hown hlocks hml hini hK A hA hE hP hD hS ls hl
  have hown : s.vm.findClass RJ6 = some m.cls := hown
  have hl : lv_has ls 1 [(0, .int p1)] := hl
  rw [f_J6_bitCount_0f7a4] at hF
  refine lv_iload_n hx hb dJ6_bitCount_0f7a4_0 rfl (lv_at hl 0 rfl) ?_
  refine lv_iload_n hx hb dJ6_bitCount_0f7a4_1 rfl (lv_at hl 0 rfl) ?_
  refine lv_iconst (v := (1 : Int32)) hx hb dJ6_bitCount_0f7a4_2 (by decide) ?_
  refine lv_iushr (v := (p1.toUInt32 >>> ((1 : Int32).toUInt32 &&& Int32.toUInt32 31)).toInt32) hx hb dJ6_bitCount_0f7a4_3 rfl ?_
  refine lv_ldcw (v := (1431655765 : Int32)) hx hb hown (hts (.constant RJ6 265 (1431655765)) (List.mem_of_getElem? (i := 1) rfl)) dJ6_bitCount_0f7a4_4 ?_
  refine lv_iand hx hb dJ6_bitCount_0f7a4_7 ?_
  refine lv_isub hx hb dJ6_bitCount_0f7a4_8 ?_
  refine lv_istore_n (lv' := [(0, .int (p1 - (((p1.toUInt32 >>> ((1 : Int32).toUInt32 &&& Int32.toUInt32 31)).toInt32) &&& (1431655765 : Int32))))]) hx hb dJ6_bitCount_0f7a4_9 rfl hl (by decide) rfl (fun ls hl => ?_)
  refine lv_iload_n hx hb dJ6_bitCount_0f7a4_10 rfl (lv_at hl 0 rfl) ?_
  refine lv_ldcw (v := (858993459 : Int32)) hx hb hown (hts (.constant RJ6 266 (858993459)) (List.mem_of_getElem? (i := 2) rfl)) dJ6_bitCount_0f7a4_11 ?_
  refine lv_iand hx hb dJ6_bitCount_0f7a4_14 ?_
  refine lv_iload_n hx hb dJ6_bitCount_0f7a4_15 rfl (lv_at hl 0 rfl) ?_
  refine lv_iconst (v := (2 : Int32)) hx hb dJ6_bitCount_0f7a4_16 (by decide) ?_
  refine lv_iushr (v := ((p1 - (((p1.toUInt32 >>> ((1 : Int32).toUInt32 &&& Int32.toUInt32 31)).toInt32) &&& (1431655765 : Int32))).toUInt32 >>> ((2 : Int32).toUInt32 &&& Int32.toUInt32 31)).toInt32) hx hb dJ6_bitCount_0f7a4_17 rfl ?_
  refine lv_ldcw (v := (858993459 : Int32)) hx hb hown (hts (.constant RJ6 266 (858993459)) (List.mem_of_getElem? (i := 2) rfl)) dJ6_bitCount_0f7a4_18 ?_
  refine lv_iand hx hb dJ6_bitCount_0f7a4_21 ?_
  refine lv_iadd hx hb dJ6_bitCount_0f7a4_22 ?_
  refine lv_istore_n (lv' := [(0, .int (((p1 - (((p1.toUInt32 >>> ((1 : Int32).toUInt32 &&& Int32.toUInt32 31)).toInt32) &&& (1431655765 : Int32))) &&& (858993459 : Int32)) + ((((p1 - (((p1.toUInt32 >>> ((1 : Int32).toUInt32 &&& Int32.toUInt32 31)).toInt32) &&& (1431655765 : Int32))).toUInt32 >>> ((2 : Int32).toUInt32 &&& Int32.toUInt32 31)).toInt32) &&& (858993459 : Int32))))]) hx hb dJ6_bitCount_0f7a4_23 rfl hl (by decide) rfl (fun ls hl => ?_)
  refine lv_iload_n hx hb dJ6_bitCount_0f7a4_24 rfl (lv_at hl 0 rfl) ?_
  refine lv_iload_n hx hb dJ6_bitCount_0f7a4_25 rfl (lv_at hl 0 rfl) ?_
  refine lv_iconst (v := (4 : Int32)) hx hb dJ6_bitCount_0f7a4_26 (by decide) ?_
  refine lv_iushr (v := ((((p1 - (((p1.toUInt32 >>> ((1 : Int32).toUInt32 &&& Int32.toUInt32 31)).toInt32) &&& (1431655765 : Int32))) &&& (858993459 : Int32)) + ((((p1 - (((p1.toUInt32 >>> ((1 : Int32).toUInt32 &&& Int32.toUInt32 31)).toInt32) &&& (1431655765 : Int32))).toUInt32 >>> ((2 : Int32).toUInt32 &&& Int32.toUInt32 31)).toInt32) &&& (858993459 : Int32))).toUInt32 >>> ((4 : Int32).toUInt32 &&& Int32.toUInt32 31)).toInt32) hx hb dJ6_bitCount_0f7a4_27 rfl ?_
  refine lv_iadd hx hb dJ6_bitCount_0f7a4_28 ?_
  refine lv_ldcw (v := (252645135 : Int32)) hx hb hown (hts (.constant RJ6 267 (252645135)) (List.mem_of_getElem? (i := 3) rfl)) dJ6_bitCount_0f7a4_29 ?_
  refine lv_iand hx hb dJ6_bitCount_0f7a4_32 ?_
  refine lv_istore_n (lv' := [(0, .int (((((p1 - (((p1.toUInt32 >>> ((1 : Int32).toUInt32 &&& Int32.toUInt32 31)).toInt32) &&& (1431655765 : Int32))) &&& (858993459 : Int32)) + ((((p1 - (((p1.toUInt32 >>> ((1 : Int32).toUInt32 &&& Int32.toUInt32 31)).toInt32) &&& (1431655765 : Int32))).toUInt32 >>> ((2 : Int32).toUInt32 &&& Int32.toUInt32 31)).toInt32) &&& (858993459 : Int32))) + (((((p1 - (((p1.toUInt32 >>> ((1 : Int32).toUInt32 &&& Int32.toUInt32 31)).toInt32) &&& (1431655765 : Int32))) &&& (858993459 : Int32)) + ((((p1 - (((p1.toUInt32 >>> ((1 : Int32).toUInt32 &&& Int32.toUInt32 31)).toInt32) &&& (1431655765 : Int32))).toUInt32 >>> ((2 : Int32).toUInt32 &&& Int32.toUInt32 31)).toInt32) &&& (858993459 : Int32))).toUInt32 >>> ((4 : Int32).toUInt32 &&& Int32.toUInt32 31)).toInt32)) &&& (252645135 : Int32)))]) hx hb dJ6_bitCount_0f7a4_33 rfl hl (by decide) rfl (fun ls hl => ?_)
  refine lv_iload_n hx hb dJ6_bitCount_0f7a4_34 rfl (lv_at hl 0 rfl) ?_
  refine lv_iload_n hx hb dJ6_bitCount_0f7a4_35 rfl (lv_at hl 0 rfl) ?_
  refine lv_bipush (v := (8 : Int32)) hx hb dJ6_bitCount_0f7a4_36 (by decide) ?_
  refine lv_iushr (v := ((((((p1 - (((p1.toUInt32 >>> ((1 : Int32).toUInt32 &&& Int32.toUInt32 31)).toInt32) &&& (1431655765 : Int32))) &&& (858993459 : Int32)) + ((((p1 - (((p1.toUInt32 >>> ((1 : Int32).toUInt32 &&& Int32.toUInt32 31)).toInt32) &&& (1431655765 : Int32))).toUInt32 >>> ((2 : Int32).toUInt32 &&& Int32.toUInt32 31)).toInt32) &&& (858993459 : Int32))) + (((((p1 - (((p1.toUInt32 >>> ((1 : Int32).toUInt32 &&& Int32.toUInt32 31)).toInt32) &&& (1431655765 : Int32))) &&& (858993459 : Int32)) + ((((p1 - (((p1.toUInt32 >>> ((1 : Int32).toUInt32 &&& Int32.toUInt32 31)).toInt32) &&& (1431655765 : Int32))).toUInt32 >>> ((2 : Int32).toUInt32 &&& Int32.toUInt32 31)).toInt32) &&& (858993459 : Int32))).toUInt32 >>> ((4 : Int32).toUInt32 &&& Int32.toUInt32 31)).toInt32)) &&& (252645135 : Int32)).toUInt32 >>> ((8 : Int32).toUInt32 &&& Int32.toUInt32 31)).toInt32) hx hb dJ6_bitCount_0f7a4_38 rfl ?_
  refine lv_iadd hx hb dJ6_bitCount_0f7a4_39 ?_
  refine lv_istore_n (lv' := [(0, .int ((((((p1 - (((p1.toUInt32 >>> ((1 : Int32).toUInt32 &&& Int32.toUInt32 31)).toInt32) &&& (1431655765 : Int32))) &&& (858993459 : Int32)) + ((((p1 - (((p1.toUInt32 >>> ((1 : Int32).toUInt32 &&& Int32.toUInt32 31)).toInt32) &&& (1431655765 : Int32))).toUInt32 >>> ((2 : Int32).toUInt32 &&& Int32.toUInt32 31)).toInt32) &&& (858993459 : Int32))) + (((((p1 - (((p1.toUInt32 >>> ((1 : Int32).toUInt32 &&& Int32.toUInt32 31)).toInt32) &&& (1431655765 : Int32))) &&& (858993459 : Int32)) + ((((p1 - (((p1.toUInt32 >>> ((1 : Int32).toUInt32 &&& Int32.toUInt32 31)).toInt32) &&& (1431655765 : Int32))).toUInt32 >>> ((2 : Int32).toUInt32 &&& Int32.toUInt32 31)).toInt32) &&& (858993459 : Int32))).toUInt32 >>> ((4 : Int32).toUInt32 &&& Int32.toUInt32 31)).toInt32)) &&& (252645135 : Int32)) + (((((((p1 - (((p1.toUInt32 >>> ((1 : Int32).toUInt32 &&& Int32.toUInt32 31)).toInt32) &&& (1431655765 : Int32))) &&& (858993459 : Int32)) + ((((p1 - (((p1.toUInt32 >>> ((1 : Int32).toUInt32 &&& Int32.toUInt32 31)).toInt32) &&& (1431655765 : Int32))).toUInt32 >>> ((2 : Int32).toUInt32 &&& Int32.toUInt32 31)).toInt32) &&& (858993459 : Int32))) + (((((p1 - (((p1.toUInt32 >>> ((1 : Int32).toUInt32 &&& Int32.toUInt32 31)).toInt32) &&& (1431655765 : Int32))) &&& (858993459 : Int32)) + ((((p1 - (((p1.toUInt32 >>> ((1 : Int32).toUInt32 &&& Int32.toUInt32 31)).toInt32) &&& (1431655765 : Int32))).toUInt32 >>> ((2 : Int32).toUInt32 &&& Int32.toUInt32 31)).toInt32) &&& (858993459 : Int32))).toUInt32 >>> ((4 : Int32).toUInt32 &&& Int32.toUInt32 31)).toInt32)) &&& (252645135 : Int32)).toUInt32 >>> ((8 : Int32).toUInt32 &&& Int32.toUInt32 31)).toInt32)))]) hx hb dJ6_bitCount_0f7a4_40 rfl hl (by decide) rfl (fun ls hl => ?_)
  refine lv_iload_n hx hb dJ6_bitCount_0f7a4_41 rfl (lv_at hl 0 rfl) ?_
  refine lv_iload_n hx hb dJ6_bitCount_0f7a4_42 rfl (lv_at hl 0 rfl) ?_
  refine lv_bipush (v := (16 : Int32)) hx hb dJ6_bitCount_0f7a4_43 (by decide) ?_
  refine lv_iushr (v := (((((((p1 - (((p1.toUInt32 >>> ((1 : Int32).toUInt32 &&& Int32.toUInt32 31)).toInt32) &&& (1431655765 : Int32))) &&& (858993459 : Int32)) + ((((p1 - (((p1.toUInt32 >>> ((1 : Int32).toUInt32 &&& Int32.toUInt32 31)).toInt32) &&& (1431655765 : Int32))).toUInt32 >>> ((2 : Int32).toUInt32 &&& Int32.toUInt32 31)).toInt32) &&& (858993459 : Int32))) + (((((p1 - (((p1.toUInt32 >>> ((1 : Int32).toUInt32 &&& Int32.toUInt32 31)).toInt32) &&& (1431655765 : Int32))) &&& (858993459 : Int32)) + ((((p1 - (((p1.toUInt32 >>> ((1 : Int32).toUInt32 &&& Int32.toUInt32 31)).toInt32) &&& (1431655765 : Int32))).toUInt32 >>> ((2 : Int32).toUInt32 &&& Int32.toUInt32 31)).toInt32) &&& (858993459 : Int32))).toUInt32 >>> ((4 : Int32).toUInt32 &&& Int32.toUInt32 31)).toInt32)) &&& (252645135 : Int32)) + (((((((p1 - (((p1.toUInt32 >>> ((1 : Int32).toUInt32 &&& Int32.toUInt32 31)).toInt32) &&& (1431655765 : Int32))) &&& (858993459 : Int32)) + ((((p1 - (((p1.toUInt32 >>> ((1 : Int32).toUInt32 &&& Int32.toUInt32 31)).toInt32) &&& (1431655765 : Int32))).toUInt32 >>> ((2 : Int32).toUInt32 &&& Int32.toUInt32 31)).toInt32) &&& (858993459 : Int32))) + (((((p1 - (((p1.toUInt32 >>> ((1 : Int32).toUInt32 &&& Int32.toUInt32 31)).toInt32) &&& (1431655765 : Int32))) &&& (858993459 : Int32)) + ((((p1 - (((p1.toUInt32 >>> ((1 : Int32).toUInt32 &&& Int32.toUInt32 31)).toInt32) &&& (1431655765 : Int32))).toUInt32 >>> ((2 : Int32).toUInt32 &&& Int32.toUInt32 31)).toInt32) &&& (858993459 : Int32))).toUInt32 >>> ((4 : Int32).toUInt32 &&& Int32.toUInt32 31)).toInt32)) &&& (252645135 : Int32)).toUInt32 >>> ((8 : Int32).toUInt32 &&& Int32.toUInt32 31)).toInt32)).toUInt32 >>> ((16 : Int32).toUInt32 &&& Int32.toUInt32 31)).toInt32) hx hb dJ6_bitCount_0f7a4_45 rfl ?_
  refine lv_iadd hx hb dJ6_bitCount_0f7a4_46 ?_
  refine lv_istore_n (lv' := [(0, .int (((((((p1 - (((p1.toUInt32 >>> ((1 : Int32).toUInt32 &&& Int32.toUInt32 31)).toInt32) &&& (1431655765 : Int32))) &&& (858993459 : Int32)) + ((((p1 - (((p1.toUInt32 >>> ((1 : Int32).toUInt32 &&& Int32.toUInt32 31)).toInt32) &&& (1431655765 : Int32))).toUInt32 >>> ((2 : Int32).toUInt32 &&& Int32.toUInt32 31)).toInt32) &&& (858993459 : Int32))) + (((((p1 - (((p1.toUInt32 >>> ((1 : Int32).toUInt32 &&& Int32.toUInt32 31)).toInt32) &&& (1431655765 : Int32))) &&& (858993459 : Int32)) + ((((p1 - (((p1.toUInt32 >>> ((1 : Int32).toUInt32 &&& Int32.toUInt32 31)).toInt32) &&& (1431655765 : Int32))).toUInt32 >>> ((2 : Int32).toUInt32 &&& Int32.toUInt32 31)).toInt32) &&& (858993459 : Int32))).toUInt32 >>> ((4 : Int32).toUInt32 &&& Int32.toUInt32 31)).toInt32)) &&& (252645135 : Int32)) + (((((((p1 - (((p1.toUInt32 >>> ((1 : Int32).toUInt32 &&& Int32.toUInt32 31)).toInt32) &&& (1431655765 : Int32))) &&& (858993459 : Int32)) + ((((p1 - (((p1.toUInt32 >>> ((1 : Int32).toUInt32 &&& Int32.toUInt32 31)).toInt32) &&& (1431655765 : Int32))).toUInt32 >>> ((2 : Int32).toUInt32 &&& Int32.toUInt32 31)).toInt32) &&& (858993459 : Int32))) + (((((p1 - (((p1.toUInt32 >>> ((1 : Int32).toUInt32 &&& Int32.toUInt32 31)).toInt32) &&& (1431655765 : Int32))) &&& (858993459 : Int32)) + ((((p1 - (((p1.toUInt32 >>> ((1 : Int32).toUInt32 &&& Int32.toUInt32 31)).toInt32) &&& (1431655765 : Int32))).toUInt32 >>> ((2 : Int32).toUInt32 &&& Int32.toUInt32 31)).toInt32) &&& (858993459 : Int32))).toUInt32 >>> ((4 : Int32).toUInt32 &&& Int32.toUInt32 31)).toInt32)) &&& (252645135 : Int32)).toUInt32 >>> ((8 : Int32).toUInt32 &&& Int32.toUInt32 31)).toInt32)) + ((((((((p1 - (((p1.toUInt32 >>> ((1 : Int32).toUInt32 &&& Int32.toUInt32 31)).toInt32) &&& (1431655765 : Int32))) &&& (858993459 : Int32)) + ((((p1 - (((p1.toUInt32 >>> ((1 : Int32).toUInt32 &&& Int32.toUInt32 31)).toInt32) &&& (1431655765 : Int32))).toUInt32 >>> ((2 : Int32).toUInt32 &&& Int32.toUInt32 31)).toInt32) &&& (858993459 : Int32))) + (((((p1 - (((p1.toUInt32 >>> ((1 : Int32).toUInt32 &&& Int32.toUInt32 31)).toInt32) &&& (1431655765 : Int32))) &&& (858993459 : Int32)) + ((((p1 - (((p1.toUInt32 >>> ((1 : Int32).toUInt32 &&& Int32.toUInt32 31)).toInt32) &&& (1431655765 : Int32))).toUInt32 >>> ((2 : Int32).toUInt32 &&& Int32.toUInt32 31)).toInt32) &&& (858993459 : Int32))).toUInt32 >>> ((4 : Int32).toUInt32 &&& Int32.toUInt32 31)).toInt32)) &&& (252645135 : Int32)) + (((((((p1 - (((p1.toUInt32 >>> ((1 : Int32).toUInt32 &&& Int32.toUInt32 31)).toInt32) &&& (1431655765 : Int32))) &&& (858993459 : Int32)) + ((((p1 - (((p1.toUInt32 >>> ((1 : Int32).toUInt32 &&& Int32.toUInt32 31)).toInt32) &&& (1431655765 : Int32))).toUInt32 >>> ((2 : Int32).toUInt32 &&& Int32.toUInt32 31)).toInt32) &&& (858993459 : Int32))) + (((((p1 - (((p1.toUInt32 >>> ((1 : Int32).toUInt32 &&& Int32.toUInt32 31)).toInt32) &&& (1431655765 : Int32))) &&& (858993459 : Int32)) + ((((p1 - (((p1.toUInt32 >>> ((1 : Int32).toUInt32 &&& Int32.toUInt32 31)).toInt32) &&& (1431655765 : Int32))).toUInt32 >>> ((2 : Int32).toUInt32 &&& Int32.toUInt32 31)).toInt32) &&& (858993459 : Int32))).toUInt32 >>> ((4 : Int32).toUInt32 &&& Int32.toUInt32 31)).toInt32)) &&& (252645135 : Int32)).toUInt32 >>> ((8 : Int32).toUInt32 &&& Int32.toUInt32 31)).toInt32)).toUInt32 >>> ((16 : Int32).toUInt32 &&& Int32.toUInt32 31)).toInt32)))]) hx hb dJ6_bitCount_0f7a4_47 rfl hl (by decide) rfl (fun ls hl => ?_)
  refine lv_iload_n hx hb dJ6_bitCount_0f7a4_48 rfl (lv_at hl 0 rfl) ?_
  refine lv_bipush (v := (63 : Int32)) hx hb dJ6_bitCount_0f7a4_49 (by decide) ?_
  refine lv_iand hx hb dJ6_bitCount_0f7a4_51 ?_
  exact fin_i (u := ((((((((p1 - (((p1.toUInt32 >>> ((1 : Int32).toUInt32 &&& Int32.toUInt32 31)).toInt32) &&& (1431655765 : Int32))) &&& (858993459 : Int32)) + ((((p1 - (((p1.toUInt32 >>> ((1 : Int32).toUInt32 &&& Int32.toUInt32 31)).toInt32) &&& (1431655765 : Int32))).toUInt32 >>> ((2 : Int32).toUInt32 &&& Int32.toUInt32 31)).toInt32) &&& (858993459 : Int32))) + (((((p1 - (((p1.toUInt32 >>> ((1 : Int32).toUInt32 &&& Int32.toUInt32 31)).toInt32) &&& (1431655765 : Int32))) &&& (858993459 : Int32)) + ((((p1 - (((p1.toUInt32 >>> ((1 : Int32).toUInt32 &&& Int32.toUInt32 31)).toInt32) &&& (1431655765 : Int32))).toUInt32 >>> ((2 : Int32).toUInt32 &&& Int32.toUInt32 31)).toInt32) &&& (858993459 : Int32))).toUInt32 >>> ((4 : Int32).toUInt32 &&& Int32.toUInt32 31)).toInt32)) &&& (252645135 : Int32)) + (((((((p1 - (((p1.toUInt32 >>> ((1 : Int32).toUInt32 &&& Int32.toUInt32 31)).toInt32) &&& (1431655765 : Int32))) &&& (858993459 : Int32)) + ((((p1 - (((p1.toUInt32 >>> ((1 : Int32).toUInt32 &&& Int32.toUInt32 31)).toInt32) &&& (1431655765 : Int32))).toUInt32 >>> ((2 : Int32).toUInt32 &&& Int32.toUInt32 31)).toInt32) &&& (858993459 : Int32))) + (((((p1 - (((p1.toUInt32 >>> ((1 : Int32).toUInt32 &&& Int32.toUInt32 31)).toInt32) &&& (1431655765 : Int32))) &&& (858993459 : Int32)) + ((((p1 - (((p1.toUInt32 >>> ((1 : Int32).toUInt32 &&& Int32.toUInt32 31)).toInt32) &&& (1431655765 : Int32))).toUInt32 >>> ((2 : Int32).toUInt32 &&& Int32.toUInt32 31)).toInt32) &&& (858993459 : Int32))).toUInt32 >>> ((4 : Int32).toUInt32 &&& Int32.toUInt32 31)).toInt32)) &&& (252645135 : Int32)).toUInt32 >>> ((8 : Int32).toUInt32 &&& Int32.toUInt32 31)).toInt32)) + ((((((((p1 - (((p1.toUInt32 >>> ((1 : Int32).toUInt32 &&& Int32.toUInt32 31)).toInt32) &&& (1431655765 : Int32))) &&& (858993459 : Int32)) + ((((p1 - (((p1.toUInt32 >>> ((1 : Int32).toUInt32 &&& Int32.toUInt32 31)).toInt32) &&& (1431655765 : Int32))).toUInt32 >>> ((2 : Int32).toUInt32 &&& Int32.toUInt32 31)).toInt32) &&& (858993459 : Int32))) + (((((p1 - (((p1.toUInt32 >>> ((1 : Int32).toUInt32 &&& Int32.toUInt32 31)).toInt32) &&& (1431655765 : Int32))) &&& (858993459 : Int32)) + ((((p1 - (((p1.toUInt32 >>> ((1 : Int32).toUInt32 &&& Int32.toUInt32 31)).toInt32) &&& (1431655765 : Int32))).toUInt32 >>> ((2 : Int32).toUInt32 &&& Int32.toUInt32 31)).toInt32) &&& (858993459 : Int32))).toUInt32 >>> ((4 : Int32).toUInt32 &&& Int32.toUInt32 31)).toInt32)) &&& (252645135 : Int32)) + (((((((p1 - (((p1.toUInt32 >>> ((1 : Int32).toUInt32 &&& Int32.toUInt32 31)).toInt32) &&& (1431655765 : Int32))) &&& (858993459 : Int32)) + ((((p1 - (((p1.toUInt32 >>> ((1 : Int32).toUInt32 &&& Int32.toUInt32 31)).toInt32) &&& (1431655765 : Int32))).toUInt32 >>> ((2 : Int32).toUInt32 &&& Int32.toUInt32 31)).toInt32) &&& (858993459 : Int32))) + (((((p1 - (((p1.toUInt32 >>> ((1 : Int32).toUInt32 &&& Int32.toUInt32 31)).toInt32) &&& (1431655765 : Int32))) &&& (858993459 : Int32)) + ((((p1 - (((p1.toUInt32 >>> ((1 : Int32).toUInt32 &&& Int32.toUInt32 31)).toInt32) &&& (1431655765 : Int32))).toUInt32 >>> ((2 : Int32).toUInt32 &&& Int32.toUInt32 31)).toInt32) &&& (858993459 : Int32))).toUInt32 >>> ((4 : Int32).toUInt32 &&& Int32.toUInt32 31)).toInt32)) &&& (252645135 : Int32)).toUInt32 >>> ((8 : Int32).toUInt32 &&& Int32.toUInt32 31)).toInt32)).toUInt32 >>> ((16 : Int32).toUInt32 &&& Int32.toUInt32 31)).toInt32)) &&& (63 : Int32), ())) hF hx hb hr hlocks hK hP hD hS (Nat.le_of_ble_eq_true rfl) (Nat.le_of_ble_eq_true rfl) dJ6_bitCount_0f7a4_52
abbrev RM_X7_signOf : Room := { frames := 0, cells := 0, slots := 0, locals := 0 }
abbrev MC_X7_signOf : Nat := 0
abbrev MS_X7_signOf : Nat := 0
abbrev wf_X7_signOf (K : Nat → ClassId)   (v : Int32 × Unit) : va_W := []
set_option maxHeartbeats 4000000 in
set_option maxRecDepth 100000 in
theorem c_X7_signOf (l : Launch) (D : va_G) (K : Nat → ClassId)   (p1 : Int32) (v : Int32 × Unit) (hF : f_X7_signOf p1 = some v) (sz : Nat) :
    (Met l yX7_signOf wsX7_signOf RM_X7_signOf (PC D (TY K) [] [.int p1] sz) (QI D (TY K) (wf_X7_signOf K) v (va_A [] sz)) MC_X7_signOf MS_X7_signOf (va_A [] sz)) := by
  refine pro (Qf := fun A => QI D (TY K) (wf_X7_signOf K) v A) (cc := cX7_signOf) (maxL := 1) (ret := (some .int)) (by decide +kernel) rfl (Nat.le_of_ble_eq_true rfl) ?_
  intro p e s m args below meth c hx hb hr hts hown hlocks hml hini hK A hA hE hP hD hS ls hl
  have hown : s.vm.findClass RX7 = some m.cls := hown
  have hl : lv_has ls 1 [(0, .int p1)] := hl
  rw [f_X7_signOf] at hF
  refine lv_iload_n hx hb dX7_signOf_0 rfl (lv_at hl 0 rfl) ?_
  refine lv_if_ne (tgt := 6) hx hb dX7_signOf_1 (by decide) (fun c1 => ?_) (fun c1 => ?_)
  · have hF := oF c1 hF
    refine lv_iload_n hx hb dX7_signOf_6 rfl (lv_at hl 0 rfl) ?_
    refine lv_if_le (tgt := 14) hx hb dX7_signOf_7 (by decide) (fun c2 => ?_) (fun c2 => ?_)
    · have hF := oT c2 hF
      refine lv_iconst (v := (-1 : Int32)) hx hb dX7_signOf_14 (by decide) ?_
      exact fin_i (u := ((-1 : Int32), ())) hF hx hb hr hlocks hK hP hD hS (Nat.le_of_ble_eq_true rfl) (Nat.le_of_ble_eq_true rfl) dX7_signOf_15
    · have hF := oF c2 hF
      refine lv_iconst (v := (1 : Int32)) hx hb dX7_signOf_10 (by decide) ?_
      refine lv_goto (tgt := 15) hx hb dX7_signOf_11 (by decide) ?_
      exact fin_i (u := ((1 : Int32), ())) hF hx hb hr hlocks hK hP hD hS (Nat.le_of_ble_eq_true rfl) (Nat.le_of_ble_eq_true rfl) dX7_signOf_15
  · have hF := oT c1 hF
    refine lv_iconst (v := (0 : Int32)) hx hb dX7_signOf_4 (by decide) ?_
    exact fin_i (u := ((0 : Int32), ())) hF hx hb hr hlocks hK hP hD hS (Nat.le_of_ble_eq_true rfl) (Nat.le_of_ble_eq_true rfl) dX7_signOf_5
abbrev RM_X7_isChange : Room := { frames := 0, cells := 0, slots := 0, locals := 0 }
abbrev MC_X7_isChange : Nat := 0
abbrev MS_X7_isChange : Nat := 0
abbrev wf_X7_isChange (K : Nat → ClassId)   (v : Int32 × Unit) : va_W := []
set_option maxHeartbeats 4000000 in
set_option maxRecDepth 100000 in
theorem c_X7_isChange (l : Launch) (D : va_G) (K : Nat → ClassId)   (p1 : Int32) (v : Int32 × Unit) (hF : f_X7_isChange p1 = some v) (sz : Nat) :
    (Met l yX7_isChange wsX7_isChange RM_X7_isChange (PC D (TY K) [] [.int p1] sz) (QI D (TY K) (wf_X7_isChange K) v (va_A [] sz)) MC_X7_isChange MS_X7_isChange (va_A [] sz)) := by
  refine pro (Qf := fun A => QI D (TY K) (wf_X7_isChange K) v A) (cc := cX7_isChange) (maxL := 1) (ret := (some .boolean)) (by decide +kernel) rfl (Nat.le_of_ble_eq_true rfl) ?_
  intro p e s m args below meth c hx hb hr hts hown hlocks hml hini hK A hA hE hP hD hS ls hl
  have hown : s.vm.findClass RX7 = some m.cls := hown
  have hl : lv_has ls 1 [(0, .int p1)] := hl
  rw [f_X7_isChange] at hF
  refine lv_iload_n hx hb dX7_isChange_0 rfl (lv_at hl 0 rfl) ?_
  refine lv_bipush (v := (-40 : Int32)) hx hb dX7_isChange_1 (by decide) ?_
  refine lv_icmp_lt (tgt := 16) hx hb dX7_isChange_3 (by decide) (fun c1 => ?_) (fun c1 => ?_)
  · have hF := oT c1 hF
    refine lv_iconst (v := (0 : Int32)) hx hb dX7_isChange_16 (by decide) ?_
    exact fin_z (u := ((0 : Int32), ())) hF (okN_n (ty := .boolean) (x := (0 : Int32)) (by decide)) hx hb hr hlocks hK hP hD hS (Nat.le_of_ble_eq_true rfl) (Nat.le_of_ble_eq_true rfl) dX7_isChange_17
  · have hF := oF c1 hF
    refine lv_iload_n hx hb dX7_isChange_6 rfl (lv_at hl 0 rfl) ?_
    refine lv_bipush (v := (40 : Int32)) hx hb dX7_isChange_7 (by decide) ?_
    refine lv_icmp_gt (tgt := 16) hx hb dX7_isChange_9 (by decide) (fun c2 => ?_) (fun c2 => ?_)
    · have hF := oT c2 hF
      refine lv_iconst (v := (0 : Int32)) hx hb dX7_isChange_16 (by decide) ?_
      exact fin_z (u := ((0 : Int32), ())) hF (okN_n (ty := .boolean) (x := (0 : Int32)) (by decide)) hx hb hr hlocks hK hP hD hS (Nat.le_of_ble_eq_true rfl) (Nat.le_of_ble_eq_true rfl) dX7_isChange_17
    · have hF := oF c2 hF
      refine lv_iconst (v := (1 : Int32)) hx hb dX7_isChange_12 (by decide) ?_
      refine lv_goto (tgt := 17) hx hb dX7_isChange_13 (by decide) ?_
      exact fin_z (u := ((1 : Int32), ())) hF (okN_n (ty := .boolean) (x := (1 : Int32)) (by decide)) hx hb hr hlocks hK hP hD hS (Nat.le_of_ble_eq_true rfl) (Nat.le_of_ble_eq_true rfl) dX7_isChange_17
abbrev RM_X7_isPressure : Room := { frames := 0, cells := 0, slots := 0, locals := 0 }
abbrev MC_X7_isPressure : Nat := 0
abbrev MS_X7_isPressure : Nat := 0
abbrev wf_X7_isPressure (K : Nat → ClassId)   (v : Int32 × Unit) : va_W := []
set_option maxHeartbeats 4000000 in
set_option maxRecDepth 100000 in
theorem c_X7_isPressure (l : Launch) (D : va_G) (K : Nat → ClassId)   (p1 : Int32) (v : Int32 × Unit) (hF : f_X7_isPressure p1 = some v) (sz : Nat) :
    (Met l yX7_isPressure wsX7_isPressure RM_X7_isPressure (PC D (TY K) [] [.int p1] sz) (QI D (TY K) (wf_X7_isPressure K) v (va_A [] sz)) MC_X7_isPressure MS_X7_isPressure (va_A [] sz)) := by
  refine pro (Qf := fun A => QI D (TY K) (wf_X7_isPressure K) v A) (cc := cX7_isPressure) (maxL := 1) (ret := (some .boolean)) (by decide +kernel) rfl (Nat.le_of_ble_eq_true rfl) ?_
  intro p e s m args below meth c hx hb hr hts hown hlocks hml hini hK A hA hE hP hD hS ls hl
  have hown : s.vm.findClass RX7 = some m.cls := hown
  have hl : lv_has ls 1 [(0, .int p1)] := hl
  rw [f_X7_isPressure] at hF
  refine lv_iload_n hx hb dX7_isPressure_0 rfl (lv_at hl 0 rfl) ?_
  refine lv_sipush (v := (900 : Int32)) hx hb dX7_isPressure_1 (by decide) ?_
  refine lv_icmp_lt (tgt := 18) hx hb dX7_isPressure_4 (by decide) (fun c1 => ?_) (fun c1 => ?_)
  · have hF := oT c1 hF
    refine lv_iconst (v := (0 : Int32)) hx hb dX7_isPressure_18 (by decide) ?_
    exact fin_z (u := ((0 : Int32), ())) hF (okN_n (ty := .boolean) (x := (0 : Int32)) (by decide)) hx hb hr hlocks hK hP hD hS (Nat.le_of_ble_eq_true rfl) (Nat.le_of_ble_eq_true rfl) dX7_isPressure_19
  · have hF := oF c1 hF
    refine lv_iload_n hx hb dX7_isPressure_7 rfl (lv_at hl 0 rfl) ?_
    refine lv_sipush (v := (1100 : Int32)) hx hb dX7_isPressure_8 (by decide) ?_
    refine lv_icmp_gt (tgt := 18) hx hb dX7_isPressure_11 (by decide) (fun c2 => ?_) (fun c2 => ?_)
    · have hF := oT c2 hF
      refine lv_iconst (v := (0 : Int32)) hx hb dX7_isPressure_18 (by decide) ?_
      exact fin_z (u := ((0 : Int32), ())) hF (okN_n (ty := .boolean) (x := (0 : Int32)) (by decide)) hx hb hr hlocks hK hP hD hS (Nat.le_of_ble_eq_true rfl) (Nat.le_of_ble_eq_true rfl) dX7_isPressure_19
    · have hF := oF c2 hF
      refine lv_iconst (v := (1 : Int32)) hx hb dX7_isPressure_14 (by decide) ?_
      refine lv_goto (tgt := 19) hx hb dX7_isPressure_15 (by decide) ?_
      exact fin_z (u := ((1 : Int32), ())) hF (okN_n (ty := .boolean) (x := (1 : Int32)) (by decide)) hx hb hr hlocks hK hP hD hS (Nat.le_of_ble_eq_true rfl) (Nat.le_of_ble_eq_true rfl) dX7_isPressure_19
