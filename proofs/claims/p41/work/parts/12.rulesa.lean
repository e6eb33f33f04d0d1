abbrev RM_X6_isRefused : Room := { frames := 0, cells := 0, slots := 0, locals := 0 }
abbrev MC_X6_isRefused : Nat := 0
abbrev MS_X6_isRefused : Nat := 0
abbrev wf_X6_isRefused (K : Nat → ClassId) (aR : Nat) (rR : Int32) (rD : Int32) (v : Int32 × Unit) : va_W := [(aR, .inr (4, [.int rR, .int rD]))]
set_option maxHeartbeats 4000000 in
set_option maxRecDepth 100000 in
theorem c_X6_isRefused (l : Launch) (D : va_G) (K : Nat → ClassId) (aR : Nat) (rR : Int32) (rD : Int32)  (v : Int32 × Unit) (hF : f_X6_isRefused rR = some v) (sz : Nat) :
    (Met l yX6_isRefused wsX6_isRefused RM_X6_isRefused (PC D (TY K) [(aR, .inr (4, [.int rR, .int rD]))] [.ref aR] sz) (QI D (TY K) (wf_X6_isRefused K aR rR rD) v (va_A [(aR, .inr (4, [.int rR, .int rD]))] sz)) MC_X6_isRefused MS_X6_isRefused (va_A [(aR, .inr (4, [.int rR, .int rD]))] sz)) := by
  refine pro (Qf := fun A => QI D (TY K) (wf_X6_isRefused K aR rR rD) v A) (cc := cX6_isRefused) (maxL := 1) (ret := (some .boolean)) (by decide +kernel) rfl (Nat.le_of_ble_eq_true rfl) ?_
  intro p e s m args below meth c hx hb hr hts hown hlocks hml hini hK A hA hE hP hD hS ls hl
  have hown : s.vm.findClass RX6 = some m.cls := hown
  have hl : lv_has ls 1 [(0, .ref aR)] := hl
  rw [f_X6_isRefused] at hF
  refine lv_aload_n hx hb dX6_isRefused_0 rfl (lv_at hl 0 rfl) ?_
  refine va_get (D := D) (ci := 4) (v := .int rR) (C := RX6) (T := TX6) (N := 2) hx hb hts (fun _ h => List.mem_cons_of_mem _ (List.mem_append_right _ h)) hown hK hP 0 rfl rfl 0 (by decide) (hts (.fieldLink RX6 9 "BarometerClub$Rules" "reason" "I") (List.mem_of_getElem? (i := 1) rfl)) (fun _ h9 => h9) rfl dX6_isRefused_1 ?_
  refine lv_if_eq (tgt := 11) hx hb dX6_isRefused_4 (by decide) (fun c1 => ?_) (fun c1 => ?_)
  · have hF := oT c1 hF
    refine lv_iconst (v := (0 : Int32)) hx hb dX6_isRefused_11 (by decide) ?_
    exact fin_z (u := ((0 : Int32), ())) hF (okN_n (ty := .boolean) (x := (0 : Int32)) (by decide)) hx hb hr hlocks hK hP hD hS (Nat.le_of_ble_eq_true rfl) (Nat.le_of_ble_eq_true rfl) dX6_isRefused_12
  · have hF := oF c1 hF
    refine lv_iconst (v := (1 : Int32)) hx hb dX6_isRefused_7 (by decide) ?_
    refine lv_goto (tgt := 12) hx hb dX6_isRefused_8 (by decide) ?_
    exact fin_z (u := ((1 : Int32), ())) hF (okN_n (ty := .boolean) (x := (1 : Int32)) (by decide)) hx hb hr hlocks hK hP hD hS (Nat.le_of_ble_eq_true rfl) (Nat.le_of_ble_eq_true rfl) dX6_isRefused_12
abbrev RM_X6_latestReason : Room := { frames := 0, cells := 0, slots := 0, locals := 0 }
abbrev MC_X6_latestReason : Nat := 0
abbrev MS_X6_latestReason : Nat := 0
abbrev wf_X6_latestReason (K : Nat → ClassId) (aR : Nat) (rR : Int32) (rD : Int32) (v : Int32 × Unit) : va_W := [(aR, .inr (4, [.int rR, .int rD]))]
set_option maxHeartbeats 4000000 in
set_option maxRecDepth 100000 in
theorem c_X6_latestReason (l : Launch) (D : va_G) (K : Nat → ClassId) (aR : Nat) (rR : Int32) (rD : Int32)  (v : Int32 × Unit) (hF : f_X6_latestReason rR = some v) (sz : Nat) :
    (Met l yX6_latestReason wsX6_latestReason RM_X6_latestReason (PC D (TY K) [(aR, .inr (4, [.int rR, .int rD]))] [.ref aR] sz) (QI D (TY K) (wf_X6_latestReason K aR rR rD) v (va_A [(aR, .inr (4, [.int rR, .int rD]))] sz)) MC_X6_latestReason MS_X6_latestReason (va_A [(aR, .inr (4, [.int rR, .int rD]))] sz)) := by
  refine pro (Qf := fun A => QI D (TY K) (wf_X6_latestReason K aR rR rD) v A) (cc := cX6_latestReason) (maxL := 1) (ret := (some .int)) (by decide +kernel) rfl (Nat.le_of_ble_eq_true rfl) ?_
  intro p e s m args below meth c hx hb hr hts hown hlocks hml hini hK A hA hE hP hD hS ls hl
  have hown : s.vm.findClass RX6 = some m.cls := hown
  have hl : lv_has ls 1 [(0, .ref aR)] := hl
  rw [f_X6_latestReason] at hF
  refine lv_aload_n hx hb dX6_latestReason_0 rfl (lv_at hl 0 rfl) ?_
  refine va_get (D := D) (ci := 4) (v := .int rR) (C := RX6) (T := TX6) (N := 2) hx hb hts (fun _ h => List.mem_cons_of_mem _ (List.mem_append_right _ h)) hown hK hP 0 rfl rfl 0 (by decide) (hts (.fieldLink RX6 9 "BarometerClub$Rules" "reason" "I") (List.mem_of_getElem? (i := 1) rfl)) (fun _ h9 => h9) rfl dX6_latestReason_1 ?_
  exact fin_i (u := (rR, ())) hF hx hb hr hlocks hK hP hD hS (Nat.le_of_ble_eq_true rfl) (Nat.le_of_ble_eq_true rfl) dX6_latestReason_4
abbrev RM_X6_latestDetail : Room := { frames := 0, cells := 0, slots := 0, locals := 0 }
abbrev MC_X6_latestDetail : Nat := 0
abbrev MS_X6_latestDetail : Nat := 0
abbrev wf_X6_latestDetail (K : Nat → ClassId) (aR : Nat) (rR : Int32) (rD : Int32) (v : Int32 × Unit) : va_W := [(aR, .inr (4, [.int rR, .int rD]))]
set_option maxHeartbeats 4000000 in
set_option maxRecDepth 100000 in
theorem c_X6_latestDetail (l : Launch) (D : va_G) (K : Nat → ClassId) (aR : Nat) (rR : Int32) (rD : Int32)  (v : Int32 × Unit) (hF : f_X6_latestDetail rD = some v) (sz : Nat) :
    (Met l yX6_latestDetail wsX6_latestDetail RM_X6_latestDetail (PC D (TY K) [(aR, .inr (4, [.int rR, .int rD]))] [.ref aR] sz) (QI D (TY K) (wf_X6_latestDetail K aR rR rD) v (va_A [(aR, .inr (4, [.int rR, .int rD]))] sz)) MC_X6_latestDetail MS_X6_latestDetail (va_A [(aR, .inr (4, [.int rR, .int rD]))] sz)) := by
  refine pro (Qf := fun A => QI D (TY K) (wf_X6_latestDetail K aR rR rD) v A) (cc := cX6_latestDetail) (maxL := 1) (ret := (some .int)) (by decide +kernel) rfl (Nat.le_of_ble_eq_true rfl) ?_
  intro p e s m args below meth c hx hb hr hts hown hlocks hml hini hK A hA hE hP hD hS ls hl
  have hown : s.vm.findClass RX6 = some m.cls := hown
  have hl : lv_has ls 1 [(0, .ref aR)] := hl
  rw [f_X6_latestDetail] at hF
  refine lv_aload_n hx hb dX6_latestDetail_0 rfl (lv_at hl 0 rfl) ?_
  refine va_get (D := D) (ci := 4) (v := .int rD) (C := RX6) (T := TX6) (N := 2) hx hb hts (fun _ h => List.mem_cons_of_mem _ (List.mem_append_right _ h)) hown hK hP 0 rfl rfl 1 (by decide) (hts (.fieldLink RX6 15 "BarometerClub$Rules" "detail" "I") (List.mem_of_getElem? (i := 1) rfl)) (fun _ h9 => h9) rfl dX6_latestDetail_1 ?_
  exact fin_i (u := (rD, ())) hF hx hb hr hlocks hK hP hD hS (Nat.le_of_ble_eq_true rfl) (Nat.le_of_ble_eq_true rfl) dX6_latestDetail_4
abbrev RM_X6_refuse : Room := { frames := 0, cells := 0, slots := 0, locals := 0 }
abbrev MC_X6_refuse : Nat := 0
abbrev MS_X6_refuse : Nat := 0
abbrev wf_X6_refuse (K : Nat → ClassId) (aR : Nat)  (v : Int32 × Int32 × Int32) : va_W := [(aR, .inr (4, [.int v.2.1, .int v.2.2]))]
set_option maxHeartbeats 4000000 in
set_option maxRecDepth 100000 in
theorem c_X6_refuse (l : Launch) (D : va_G) (K : Nat → ClassId) (aR : Nat) (rR : Int32) (rD : Int32) (p1 : Int32) (p2 : Int32) (v : Int32 × Int32 × Int32) (hF : f_X6_refuse rR rD p1 p2 = some v) (sz : Nat) :
    (Met l yX6_refuse wsX6_refuse RM_X6_refuse (PC D (TY K) [(aR, .inr (4, [.int rR, .int rD]))] [.ref aR, .int p1, .int p2] sz) (QI D (TY K) (wf_X6_refuse K aR) v (va_A [(aR, .inr (4, [.int rR, .int rD]))] sz)) MC_X6_refuse MS_X6_refuse (va_A [(aR, .inr (4, [.int rR, .int rD]))] sz)) := by
  refine pro (Qf := fun A => QI D (TY K) (wf_X6_refuse K aR) v A) (cc := cX6_refuse) (maxL := 3) (ret := (some .int)) (by decide +kernel) rfl (Nat.le_of_ble_eq_true rfl) ?_
  intro p e s m args below meth c hx hb hr hts hown hlocks hml hini hK A hA hE hP hD hS ls hl
  have hown : s.vm.findClass RX6 = some m.cls := hown
  have hl : lv_has ls 3 [(0, .ref aR), (1, .int p1), (2, .int p2)] := hl
  rw [f_X6_refuse] at hF
  refine lv_aload_n hx hb dX6_refuse_0 rfl (lv_at hl 0 rfl) ?_
  refine lv_iload_n hx hb dX6_refuse_1 rfl (lv_at hl 1 rfl) ?_
  refine va_put (D := D) (ci := 4) (v := .int p1) (ty := .int) (C := RX6) (T := TX6) (N := 2) hx hb hts (fun _ h => List.mem_cons_of_mem _ (List.mem_append_right _ h)) tyX6 tyX6_ok nmX6 hown hK hP hD hS 0 rfl rfl 0 (by decide) (hts (.fieldLink RX6 9 "BarometerClub$Rules" "reason" "I") (List.mem_of_getElem? (i := 1) rfl)) (fun _ h9 => h9) rfl (by decide +kernel) rfl rfl (Nat.le_of_ble_eq_true rfl) dX6_refuse_2 (fun H locs hP hD hS => ?_)
  have hP : va_P D vwC7 [(aR, .inr (4, [.int p1, .int rD]))] H := hP
  have hD : va_D A [(aR, .inr (4, [.int p1, .int rD]))] := hD
  refine lv_aload_n hx hb dX6_refuse_5 rfl (lv_at hl 0 rfl) ?_
  refine lv_iload_n hx hb dX6_refuse_6 rfl (lv_at hl 2 rfl) ?_
  refine va_put (D := D) (ci := 4) (v := .int p2) (ty := .int) (C := RX6) (T := TX6) (N := 2) hx hb hts (fun _ h => List.mem_cons_of_mem _ (List.mem_append_right _ h)) tyX6 tyX6_ok nmX6 hown hK hP hD hS 0 rfl rfl 1 (by decide) (hts (.fieldLink RX6 15 "BarometerClub$Rules" "detail" "I") (List.mem_of_getElem? (i := 2) rfl)) (fun _ h9 => h9) rfl (by decide +kernel) rfl rfl (Nat.le_of_ble_eq_true rfl) dX6_refuse_7 (fun H locs hP hD hS => ?_)
  have hP : va_P D vwC7 [(aR, .inr (4, [.int p1, .int p2]))] H := hP
  have hD : va_D A [(aR, .inr (4, [.int p1, .int p2]))] := hD
  refine lv_iconst (v := (0 : Int32)) hx hb dX6_refuse_10 (by decide) ?_
  exact fin_i (u := ((0 : Int32), (p1, p2))) hF hx hb hr hlocks hK hP hD hS (Nat.le_of_ble_eq_true rfl) (Nat.le_of_ble_eq_true rfl) dX6_refuse_11
abbrev RM_X6_enter : Room := { frames := 3, cells := 0, slots := 0, locals := 66 }
abbrev MC_X6_enter : Nat := 0
abbrev MS_X6_enter : Nat := 0
abbrev wf_X6_enter (K : Nat → ClassId) (aC : Nat) (aCr : Nat) (aR : Nat)  (v : Int32 × (Nat → Int32) × Int32 × Int32) : va_W := [(aC, .inr (0, [.ref aCr])), (aCr, .inl (K 0, 55, .inl v.2.1)), (aR, .inr (4, [.int v.2.2.1, .int v.2.2.2]))]
set_option maxHeartbeats 4000000 in
set_option maxRecDepth 100000 in
theorem c_X6_enter (l : Launch) (D : va_G) (K : Nat → ClassId) (aC : Nat) (aCr : Nat) (aR : Nat) (row : Nat → Int32) (rR : Int32) (rD : Int32) (p2 : Int32) (v : Int32 × (Nat → Int32) × Int32 × Int32) (hF : f_X6_enter row rR rD p2 = some v) (sz : Nat) :
    (Met l yX6_enter wsX6_enter RM_X6_enter (PC D (TY K) [(aC, .inr (0, [.ref aCr])), (aCr, .inl (K 0, 55, .inl row)), (aR, .inr (4, [.int rR, .int rD]))] [.ref aR, .ref aC, .int p2] sz) (QI D (TY K) (wf_X6_enter K aC aCr aR) v (va_A [(aC, .inr (0, [.ref aCr])), (aCr, .inl (K 0, 55, .inl row)), (aR, .inr (4, [.int rR, .int rD]))] sz)) MC_X6_enter MS_X6_enter (va_A [(aC, .inr (0, [.ref aCr])), (aCr, .inl (K 0, 55, .inl row)), (aR, .inr (4, [.int rR, .int rD]))] sz)) := by
  refine pro (Qf := fun A => QI D (TY K) (wf_X6_enter K aC aCr aR) v A) (cc := cX6_enter) (maxL := 3) (ret := (some .int)) (by decide +kernel) rfl (Nat.le_of_ble_eq_true rfl) ?_
  intro p e s m args below meth c hx hb hr hts hown hlocks hml hini hK A hA hE hP hD hS ls hl
  have hown : s.vm.findClass RX6 = some m.cls := hown
  have hl : lv_has ls 3 [(0, .ref aR), (1, .ref aC), (2, .int p2)] := hl
  rw [f_X6_enter] at hF
  refine lv_iload_n hx hb dX6_enter_0 rfl (lv_at hl 2 rfl) ?_
  obtain ⟨v1, hv1, hF⟩ := oB hF
  refine call_i (wr := [(aC, .inr (0, [.ref aCr])), (aCr, .inl (K 0, 55, .inl row)), (aR, .inr (4, [.int rR, .int rD]))]) (wn := [(aC, .inr (0, [.ref aCr])), (aCr, .inl (K 0, 55, .inl row)), (aR, .inr (4, [.int rR, .int rD]))]) (va_runSN (As := [.int p2]) (rest := []) ⟨hx, hb, hml, hown, hts⟩ (c_X7_isHeight l D K p2 v1 hv1 s.heap.size) ⟨va_cnB 1 hts gX6_enter_X7_isHeight_n62 rfl rfl rfl (hE.2.2.1 _ (List.mem_of_getElem? (i := 4) rfl)) (hts (.initialized RX7) (List.mem_of_getElem? (i := 2) rfl)) (by decide +kernel) ⟨(Nat.le_of_ble_eq_true rfl), (Nat.le_of_ble_eq_true rfl)⟩, (hts (.static yX7_isHeight) (List.mem_of_getElem? (i := 1) rfl)), trivial⟩ (prS hE hK hP hD hS hA [] rfl rfl) rfl rfl hl.1 rfl (lv_room (Nat.le_of_ble_eq_true rfl)) dX6_enter_1 ⟨(Nat.le_of_ble_eq_true rfl), (Nat.le_of_ble_eq_true rfl)⟩) hP hD hS hA [] [0, 1, 2] [0, 1, 2] rfl rfl rfl (by decide) rfl rfl (fun H locs hP hD hS => ?_)
  refine lv_if_ne (tgt := 14) hx hb dX6_enter_4 (by decide) (fun c2 => ?_) (fun c2 => ?_)
  · have hF := oF c2 hF
    refine lv_aload_n hx hb dX6_enter_14 rfl (lv_at hl 1 rfl) ?_
    refine lv_iconst (v := (0 : Int32)) hx hb dX6_enter_15 (by decide) ?_
    obtain ⟨v3, hv3, hF⟩ := oB hF
    refine call_i (wr := [(aR, .inr (4, [.int rR, .int rD]))]) (wn := [(aC, .inr (0, [.ref aCr])), (aCr, .inl (K 0, 55, .inl row)), (aR, .inr (4, [.int rR, .int rD]))]) (va_runV (As := [.int (0 : Int32)]) (rest := []) ⟨hx, hb, hml, hown, hts⟩ (c_X0_get l D K aC aCr row (0 : Int32) v3 hv3 H.size) (cwV 1 hts gX6_enter_X0_get rfl rfl rfl (by decide +kernel) ⟨(Nat.le_of_ble_eq_true rfl), (Nat.le_of_ble_eq_true rfl)⟩) (prV hE hK hP hD hS hA [0, 1] rfl rfl 0 0 rfl rfl rfl) rfl rfl hl.1 rfl (lv_room (Nat.le_of_ble_eq_true rfl)) dX6_enter_16 ⟨(Nat.le_of_ble_eq_true rfl), (Nat.le_of_ble_eq_true rfl)⟩) hP hD hS hA [0, 1] [2] [1, 2, 0] rfl rfl rfl (by decide) rfl rfl (fun H locs hP hD hS => ?_)
    refine lv_bipush (v := (6 : Int32)) hx hb dX6_enter_19 (by decide) ?_
    refine lv_icmp_lt (tgt := 35) hx hb dX6_enter_21 (by decide) (fun c4 => ?_) (fun c4 => ?_)
    · have hF := oT c4 hF
      refine lv_aload_n hx hb dX6_enter_35 rfl (lv_at hl 1 rfl) ?_
      refine lv_iload_n hx hb dX6_enter_36 rfl (lv_at hl 2 rfl) ?_
      obtain ⟨v5, hv5, hF⟩ := oB hF
      refine call_i (wr := [(aR, .inr (4, [.int rR, .int rD]))]) (wn := [(aC, .inr (0, [.ref aCr])), (aCr, .inl (K 0, 55, .inl row)), (aR, .inr (4, [.int rR, .int rD]))]) (va_runV (As := [.int p2]) (rest := []) ⟨hx, hb, hml, hown, hts⟩ (c_X0_isFree l D K aC aCr row p2 v5 hv5 H.size) (cwV 1 hts gX6_enter_X0_isFree rfl rfl rfl (by decide +kernel) ⟨(Nat.le_of_ble_eq_true rfl), (Nat.le_of_ble_eq_true rfl)⟩) (prV hE hK hP hD hS hA [0, 1] rfl rfl 0 0 rfl rfl rfl) rfl rfl hl.1 rfl (lv_room (Nat.le_of_ble_eq_true rfl)) dX6_enter_37 ⟨(Nat.le_of_ble_eq_true rfl), (Nat.le_of_ble_eq_true rfl)⟩) hP hD hS hA [0, 1] [2] [1, 2, 0] rfl rfl rfl (by decide) rfl rfl (fun H locs hP hD hS => ?_)
      refine lv_if_ne (tgt := 54) hx hb dX6_enter_40 (by decide) (fun c6 => ?_) (fun c6 => ?_)
      · have hF := oF c6 hF
        refine lv_aload_n hx hb dX6_enter_54 rfl (lv_at hl 1 rfl) ?_
        refine lv_iload_n hx hb dX6_enter_55 rfl (lv_at hl 2 rfl) ?_
        obtain ⟨v7, hv7, hF⟩ := oB hF
        refine call_i (wr := [(aR, .inr (4, [.int rR, .int rD]))]) (wn := [(aC, .inr (0, [.ref aCr])), (aCr, .inl (K 0, 55, .inl v7.2)), (aR, .inr (4, [.int rR, .int rD]))]) (va_runV (As := [.int p2]) (rest := []) ⟨hx, hb, hml, hown, hts⟩ (c_X0_enroll l D K aC aCr row p2 v7 hv7 H.size) (cwV 1 hts gX6_enter_X0_enroll rfl rfl rfl (by decide +kernel) ⟨(Nat.le_of_ble_eq_true rfl), (Nat.le_of_ble_eq_true rfl)⟩) (prV hE hK hP hD hS hA [0, 1] rfl rfl 0 0 rfl rfl rfl) rfl rfl hl.1 rfl (lv_room (Nat.le_of_ble_eq_true rfl)) dX6_enter_56 ⟨(Nat.le_of_ble_eq_true rfl), (Nat.le_of_ble_eq_true rfl)⟩) hP hD hS hA [0, 1] [2] [1, 2, 0] rfl rfl rfl (by decide) rfl rfl (fun H locs hP hD hS => ?_)
        exact fin_i (u := (v7.1, (v7.2, rR, rD))) hF hx hb hr hlocks hK hP hD hS (Nat.le_of_ble_eq_true rfl) (Nat.le_of_ble_eq_true rfl) dX6_enter_59
      · have hF := oT c6 hF
        refine lv_aload_n hx hb dX6_enter_43 rfl (lv_at hl 0 rfl) ?_
        refine lv_iconst (v := (3 : Int32)) hx hb dX6_enter_44 (by decide) ?_
        refine lv_aload_n hx hb dX6_enter_45 rfl (lv_at hl 1 rfl) ?_
        refine lv_iload_n hx hb dX6_enter_46 rfl (lv_at hl 2 rfl) ?_
        obtain ⟨v8, hv8, hF⟩ := oB hF
        refine call_i (wr := [(aR, .inr (4, [.int rR, .int rD]))]) (wn := [(aC, .inr (0, [.ref aCr])), (aCr, .inl (K 0, 55, .inl row)), (aR, .inr (4, [.int rR, .int rD]))]) (va_runV (As := [.int p2]) (rest := [.int (3 : Int32), .ref aR]) ⟨hx, hb, hml, hown, hts⟩ (c_X0_ownerOf l D K aC aCr row p2 v8 hv8 H.size) (cwV 1 hts gX6_enter_X0_ownerOf rfl rfl rfl (by decide +kernel) ⟨(Nat.le_of_ble_eq_true rfl), (Nat.le_of_ble_eq_true rfl)⟩) (prV hE hK hP hD hS hA [0, 1] rfl rfl 0 0 rfl rfl rfl) rfl rfl hl.1 rfl (lv_room (Nat.le_of_ble_eq_true rfl)) dX6_enter_47 ⟨(Nat.le_of_ble_eq_true rfl), (Nat.le_of_ble_eq_true rfl)⟩) hP hD hS hA [0, 1] [2] [1, 2, 0] rfl rfl rfl (by decide) rfl rfl (fun H locs hP hD hS => ?_)
        obtain ⟨v9, hv9, hF⟩ := oB hF
        refine call_i (wr := [(aC, .inr (0, [.ref aCr])), (aCr, .inl (K 0, 55, .inl row))]) (wn := [(aC, .inr (0, [.ref aCr])), (aCr, .inl (K 0, 55, .inl row)), (aR, .inr (4, [.int v9.2.1, .int v9.2.2]))]) (va_runV (As := [.int (3 : Int32), .int v8.1]) (rest := []) ⟨hx, hb, hml, hown, hts⟩ (c_X6_refuse l D K aR rR rD (3 : Int32) v8.1 v9 hv9 H.size) (cwV 2 hts gX6_enter_X6_refuse rfl rfl rfl (by decide +kernel) ⟨(Nat.le_of_ble_eq_true rfl), (Nat.le_of_ble_eq_true rfl)⟩) (prV hE hK hP hD hS hA [2] rfl rfl 4 2 rfl rfl rfl) rfl rfl hl.1 rfl (lv_room (Nat.le_of_ble_eq_true rfl)) dX6_enter_50 ⟨(Nat.le_of_ble_eq_true rfl), (Nat.le_of_ble_eq_true rfl)⟩) hP hD hS hA [2] [0, 1] [0, 1, 2] rfl rfl rfl (by decide) rfl rfl (fun H locs hP hD hS => ?_)
        exact fin_i (u := (v9.1, (row, v9.2.1, v9.2.2))) hF hx hb hr hlocks hK hP hD hS (Nat.le_of_ble_eq_true rfl) (Nat.le_of_ble_eq_true rfl) dX6_enter_53
    · have hF := oF c4 hF
      refine lv_aload_n hx hb dX6_enter_24 rfl (lv_at hl 0 rfl) ?_
      refine lv_iconst (v := (2 : Int32)) hx hb dX6_enter_25 (by decide) ?_
      refine lv_aload_n hx hb dX6_enter_26 rfl (lv_at hl 1 rfl) ?_
      refine lv_iconst (v := (0 : Int32)) hx hb dX6_enter_27 (by decide) ?_
      obtain ⟨v10, hv10, hF⟩ := oB hF
      refine call_i (wr := [(aR, .inr (4, [.int rR, .int rD]))]) (wn := [(aC, .inr (0, [.ref aCr])), (aCr, .inl (K 0, 55, .inl row)), (aR, .inr (4, [.int rR, .int rD]))]) (va_runV (As := [.int (0 : Int32)]) (rest := [.int (2 : Int32), .ref aR]) ⟨hx, hb, hml, hown, hts⟩ (c_X0_get l D K aC aCr row (0 : Int32) v10 hv10 H.size) (cwV 1 hts gX6_enter_X0_get rfl rfl rfl (by decide +kernel) ⟨(Nat.le_of_ble_eq_true rfl), (Nat.le_of_ble_eq_true rfl)⟩) (prV hE hK hP hD hS hA [0, 1] rfl rfl 0 0 rfl rfl rfl) rfl rfl hl.1 rfl (lv_room (Nat.le_of_ble_eq_true rfl)) dX6_enter_28 ⟨(Nat.le_of_ble_eq_true rfl), (Nat.le_of_ble_eq_true rfl)⟩) hP hD hS hA [0, 1] [2] [1, 2, 0] rfl rfl rfl (by decide) rfl rfl (fun H locs hP hD hS => ?_)
      obtain ⟨v11, hv11, hF⟩ := oB hF
      refine call_i (wr := [(aC, .inr (0, [.ref aCr])), (aCr, .inl (K 0, 55, .inl row))]) (wn := [(aC, .inr (0, [.ref aCr])), (aCr, .inl (K 0, 55, .inl row)), (aR, .inr (4, [.int v11.2.1, .int v11.2.2]))]) (va_runV (As := [.int (2 : Int32), .int v10.1]) (rest := []) ⟨hx, hb, hml, hown, hts⟩ (c_X6_refuse l D K aR rR rD (2 : Int32) v10.1 v11 hv11 H.size) (cwV 2 hts gX6_enter_X6_refuse rfl rfl rfl (by decide +kernel) ⟨(Nat.le_of_ble_eq_true rfl), (Nat.le_of_ble_eq_true rfl)⟩) (prV hE hK hP hD hS hA [2] rfl rfl 4 2 rfl rfl rfl) rfl rfl hl.1 rfl (lv_room (Nat.le_of_ble_eq_true rfl)) dX6_enter_31 ⟨(Nat.le_of_ble_eq_true rfl), (Nat.le_of_ble_eq_true rfl)⟩) hP hD hS hA [2] [0, 1] [0, 1, 2] rfl rfl rfl (by decide) rfl rfl (fun H locs hP hD hS => ?_)
      exact fin_i (u := (v11.1, (row, v11.2.1, v11.2.2))) hF hx hb hr hlocks hK hP hD hS (Nat.le_of_ble_eq_true rfl) (Nat.le_of_ble_eq_true rfl) dX6_enter_34
  · have hF := oT c2 hF
    refine lv_aload_n hx hb dX6_enter_7 rfl (lv_at hl 0 rfl) ?_
    refine lv_iconst (v := (1 : Int32)) hx hb dX6_enter_8 (by decide) ?_
    refine lv_iconst (v := (0 : Int32)) hx hb dX6_enter_9 (by decide) ?_
    obtain ⟨v12, hv12, hF⟩ := oB hF
    refine call_i (wr := [(aC, .inr (0, [.ref aCr])), (aCr, .inl (K 0, 55, .inl row))]) (wn := [(aC, .inr (0, [.ref aCr])), (aCr, .inl (K 0, 55, .inl row)), (aR, .inr (4, [.int v12.2.1, .int v12.2.2]))]) (va_runV (As := [.int (1 : Int32), .int (0 : Int32)]) (rest := []) ⟨hx, hb, hml, hown, hts⟩ (c_X6_refuse l D K aR rR rD (1 : Int32) (0 : Int32) v12 hv12 H.size) (cwV 2 hts gX6_enter_X6_refuse rfl rfl rfl (by decide +kernel) ⟨(Nat.le_of_ble_eq_true rfl), (Nat.le_of_ble_eq_true rfl)⟩) (prV hE hK hP hD hS hA [2] rfl rfl 4 2 rfl rfl rfl) rfl rfl hl.1 rfl (lv_room (Nat.le_of_ble_eq_true rfl)) dX6_enter_10 ⟨(Nat.le_of_ble_eq_true rfl), (Nat.le_of_ble_eq_true rfl)⟩) hP hD hS hA [2] [0, 1] [0, 1, 2] rfl rfl rfl (by decide) rfl rfl (fun H locs hP hD hS => ?_)
    exact fin_i (u := (v12.1, (row, v12.2.1, v12.2.2))) hF hx hb hr hlocks hK hP hD hS (Nat.le_of_ble_eq_true rfl) (Nat.le_of_ble_eq_true rfl) dX6_enter_13
abbrev RM_X6_refuseStranger : Room := { frames := 1, cells := 0, slots := 0, locals := 22 }
abbrev MC_X6_refuseStranger : Nat := 0
abbrev MS_X6_refuseStranger : Nat := 0
abbrev wf_X6_refuseStranger (K : Nat → ClassId) (aC : Nat) (aCr : Nat) (aR : Nat) (row : Nat → Int32) (v : Int32 × Int32 × Int32) : va_W := [(aC, .inr (0, [.ref aCr])), (aCr, .inl (K 0, 55, .inl row)), (aR, .inr (4, [.int v.2.1, .int v.2.2]))]
set_option maxHeartbeats 4000000 in
set_option maxRecDepth 100000 in
theorem c_X6_refuseStranger (l : Launch) (D : va_G) (K : Nat → ClassId) (aC : Nat) (aCr : Nat) (aR : Nat) (row : Nat → Int32) (rR : Int32) (rD : Int32)  (v : Int32 × Int32 × Int32) (hF : f_X6_refuseStranger row rR rD = some v) (sz : Nat) :
    (Met l yX6_refuseStranger wsX6_refuseStranger RM_X6_refuseStranger (PC D (TY K) [(aC, .inr (0, [.ref aCr])), (aCr, .inl (K 0, 55, .inl row)), (aR, .inr (4, [.int rR, .int rD]))] [.ref aR, .ref aC] sz) (QI D (TY K) (wf_X6_refuseStranger K aC aCr aR row) v (va_A [(aC, .inr (0, [.ref aCr])), (aCr, .inl (K 0, 55, .inl row)), (aR, .inr (4, [.int rR, .int rD]))] sz)) MC_X6_refuseStranger MS_X6_refuseStranger (va_A [(aC, .inr (0, [.ref aCr])), (aCr, .inl (K 0, 55, .inl row)), (aR, .inr (4, [.int rR, .int rD]))] sz)) := by
  refine pro (Qf := fun A => QI D (TY K) (wf_X6_refuseStranger K aC aCr aR row) v A) (cc := cX6_refuseStranger) (maxL := 2) (ret := (some .int)) (by decide +kernel) rfl (Nat.le_of_ble_eq_true rfl) ?_
  intro p e s m args below meth c hx hb hr hts hown hlocks hml hini hK A hA hE hP hD hS ls hl
  have hown : s.vm.findClass RX6 = some m.cls := hown
  have hl : lv_has ls 2 [(0, .ref aR), (1, .ref aC)] := hl
  rw [f_X6_refuseStranger] at hF
  refine lv_aload_n hx hb dX6_refuseStranger_0 rfl (lv_at hl 0 rfl) ?_
  refine lv_iconst (v := (4 : Int32)) hx hb dX6_refuseStranger_1 (by decide) ?_
  refine lv_aload_n hx hb dX6_refuseStranger_2 rfl (lv_at hl 1 rfl) ?_
  refine lv_iconst (v := (0 : Int32)) hx hb dX6_refuseStranger_3 (by decide) ?_
  obtain ⟨v1, hv1, hF⟩ := oB hF
  refine call_i (wr := [(aR, .inr (4, [.int rR, .int rD]))]) (wn := [(aC, .inr (0, [.ref aCr])), (aCr, .inl (K 0, 55, .inl row)), (aR, .inr (4, [.int rR, .int rD]))]) (va_runV (As := [.int (0 : Int32)]) (rest := [.int (4 : Int32), .ref aR]) ⟨hx, hb, hml, hown, hts⟩ (c_X0_get l D K aC aCr row (0 : Int32) v1 hv1 s.heap.size) (cwV 1 hts gX6_refuseStranger_X0_get rfl rfl rfl (by decide +kernel) ⟨(Nat.le_of_ble_eq_true rfl), (Nat.le_of_ble_eq_true rfl)⟩) (prV hE hK hP hD hS hA [0, 1] rfl rfl 0 0 rfl rfl rfl) rfl rfl hl.1 rfl (lv_room (Nat.le_of_ble_eq_true rfl)) dX6_refuseStranger_4 ⟨(Nat.le_of_ble_eq_true rfl), (Nat.le_of_ble_eq_true rfl)⟩) hP hD hS hA [0, 1] [2] [1, 2, 0] rfl rfl rfl (by decide) rfl rfl (fun H locs hP hD hS => ?_)
  obtain ⟨v2, hv2, hF⟩ := oB hF
  refine call_i (wr := [(aC, .inr (0, [.ref aCr])), (aCr, .inl (K 0, 55, .inl row))]) (wn := [(aC, .inr (0, [.ref aCr])), (aCr, .inl (K 0, 55, .inl row)), (aR, .inr (4, [.int v2.2.1, .int v2.2.2]))]) (va_runV (As := [.int (4 : Int32), .int v1.1]) (rest := []) ⟨hx, hb, hml, hown, hts⟩ (c_X6_refuse l D K aR rR rD (4 : Int32) v1.1 v2 hv2 H.size) (cwV 2 hts gX6_refuseStranger_X6_refuse rfl rfl rfl (by decide +kernel) ⟨(Nat.le_of_ble_eq_true rfl), (Nat.le_of_ble_eq_true rfl)⟩) (prV hE hK hP hD hS hA [2] rfl rfl 4 2 rfl rfl rfl) rfl rfl hl.1 rfl (lv_room (Nat.le_of_ble_eq_true rfl)) dX6_refuseStranger_7 ⟨(Nat.le_of_ble_eq_true rfl), (Nat.le_of_ble_eq_true rfl)⟩) hP hD hS hA [2] [0, 1] [0, 1, 2] rfl rfl rfl (by decide) rfl rfl (fun H locs hP hD hS => ?_)
  exact fin_i (u := (v2.1, (v2.2.1, v2.2.2))) hF hx hb hr hlocks hK hP hD hS (Nat.le_of_ble_eq_true rfl) (Nat.le_of_ble_eq_true rfl) dX6_refuseStranger_10
abbrev RM_X6_goAway : Room := { frames := 3, cells := 0, slots := 0, locals := 68 }
abbrev MC_X6_goAway : Nat := 0
abbrev MS_X6_goAway : Nat := 0
abbrev wf_X6_goAway (K : Nat → ClassId) (aC : Nat) (aCr : Nat) (aR : Nat)  (v : Int32 × (Nat → Int32) × Int32 × Int32) : va_W := [(aC, .inr (0, [.ref aCr])), (aCr, .inl (K 0, 55, .inl v.2.1)), (aR, .inr (4, [.int v.2.2.1, .int v.2.2.2]))]
set_option maxHeartbeats 4000000 in
set_option maxRecDepth 100000 in
theorem c_X6_goAway (l : Launch) (D : va_G) (K : Nat → ClassId) (aC : Nat) (aCr : Nat) (aR : Nat) (row : Nat → Int32) (rR : Int32) (rD : Int32) (p2 : Int32) (v : Int32 × (Nat → Int32) × Int32 × Int32) (hF : f_X6_goAway row rR rD p2 = some v) (sz : Nat) :
    (Met l yX6_goAway wsX6_goAway RM_X6_goAway (PC D (TY K) [(aC, .inr (0, [.ref aCr])), (aCr, .inl (K 0, 55, .inl row)), (aR, .inr (4, [.int rR, .int rD]))] [.ref aR, .ref aC, .int p2] sz) (QI D (TY K) (wf_X6_goAway K aC aCr aR) v (va_A [(aC, .inr (0, [.ref aCr])), (aCr, .inl (K 0, 55, .inl row)), (aR, .inr (4, [.int rR, .int rD]))] sz)) MC_X6_goAway MS_X6_goAway (va_A [(aC, .inr (0, [.ref aCr])), (aCr, .inl (K 0, 55, .inl row)), (aR, .inr (4, [.int rR, .int rD]))] sz)) := by
  refine pro (Qf := fun A => QI D (TY K) (wf_X6_goAway K aC aCr aR) v A) (cc := cX6_goAway) (maxL := 3) (ret := (some .int)) (by decide +kernel) rfl (Nat.le_of_ble_eq_true rfl) ?_
  intro p e s m args below meth c hx hb hr hts hown hlocks hml hini hK A hA hE hP hD hS ls hl
  have hown : s.vm.findClass RX6 = some m.cls := hown
  have hl : lv_has ls 3 [(0, .ref aR), (1, .ref aC), (2, .int p2)] := hl
  rw [f_X6_goAway] at hF
  refine lv_aload_n hx hb dX6_goAway_0 rfl (lv_at hl 1 rfl) ?_
  refine lv_iload_n hx hb dX6_goAway_1 rfl (lv_at hl 2 rfl) ?_
  obtain ⟨v1, hv1, hF⟩ := oB hF
  refine call_i (wr := [(aR, .inr (4, [.int rR, .int rD]))]) (wn := [(aC, .inr (0, [.ref aCr])), (aCr, .inl (K 0, 55, .inl row)), (aR, .inr (4, [.int rR, .int rD]))]) (va_runV (As := [.int p2]) (rest := []) ⟨hx, hb, hml, hown, hts⟩ (c_X0_isMember l D K aC aCr row p2 v1 hv1 s.heap.size) (cwV 1 hts gX6_goAway_X0_isMember rfl rfl rfl (by decide +kernel) ⟨(Nat.le_of_ble_eq_true rfl), (Nat.le_of_ble_eq_true rfl)⟩) (prV hE hK hP hD hS hA [0, 1] rfl rfl 0 0 rfl rfl rfl) rfl rfl hl.1 rfl (lv_room (Nat.le_of_ble_eq_true rfl)) dX6_goAway_2 ⟨(Nat.le_of_ble_eq_true rfl), (Nat.le_of_ble_eq_true rfl)⟩) hP hD hS hA [0, 1] [2] [1, 2, 0] rfl rfl rfl (by decide) rfl rfl (fun H locs hP hD hS => ?_)
  refine lv_if_ne (tgt := 14) hx hb dX6_goAway_5 (by decide) (fun c2 => ?_) (fun c2 => ?_)
  · have hF := oF c2 hF
    refine lv_aload_n hx hb dX6_goAway_14 rfl (lv_at hl 1 rfl) ?_
    refine lv_iload_n hx hb dX6_goAway_15 rfl (lv_at hl 2 rfl) ?_
    obtain ⟨v3, hv3, hF⟩ := oB hF
    refine call_i (wr := [(aR, .inr (4, [.int rR, .int rD]))]) (wn := [(aC, .inr (0, [.ref aCr])), (aCr, .inl (K 0, 55, .inl row)), (aR, .inr (4, [.int rR, .int rD]))]) (va_runV (As := [.int p2]) (rest := []) ⟨hx, hb, hml, hown, hts⟩ (c_X0_hasWagered l D K aC aCr row p2 v3 hv3 H.size) (cwV 1 hts gX6_goAway_X0_hasWagered rfl rfl rfl (by decide +kernel) ⟨(Nat.le_of_ble_eq_true rfl), (Nat.le_of_ble_eq_true rfl)⟩) (prV hE hK hP hD hS hA [0, 1] rfl rfl 0 0 rfl rfl rfl) rfl rfl hl.1 rfl (lv_room (Nat.le_of_ble_eq_true rfl)) dX6_goAway_16 ⟨(Nat.le_of_ble_eq_true rfl), (Nat.le_of_ble_eq_true rfl)⟩) hP hD hS hA [0, 1] [2] [1, 2, 0] rfl rfl rfl (by decide) rfl rfl (fun H locs hP hD hS => ?_)
    refine lv_if_eq (tgt := 35) hx hb dX6_goAway_19 (by decide) (fun c4 => ?_) (fun c4 => ?_)
    · have hF := oT c4 hF
      refine lv_aload_n hx hb dX6_goAway_35 rfl (lv_at hl 1 rfl) ?_
      refine lv_iload_n hx hb dX6_goAway_36 rfl (lv_at hl 2 rfl) ?_
      obtain ⟨v5, hv5, hF⟩ := oB hF
      refine call_i (wr := [(aR, .inr (4, [.int rR, .int rD]))]) (wn := [(aC, .inr (0, [.ref aCr])), (aCr, .inl (K 0, 55, .inl v5.2)), (aR, .inr (4, [.int rR, .int rD]))]) (va_runV (As := [.int p2]) (rest := []) ⟨hx, hb, hml, hown, hts⟩ (c_X0_dismiss l D K aC aCr row p2 v5 hv5 H.size) (cwV 1 hts gX6_goAway_X0_dismiss rfl rfl rfl (by decide +kernel) ⟨(Nat.le_of_ble_eq_true rfl), (Nat.le_of_ble_eq_true rfl)⟩) (prV hE hK hP hD hS hA [0, 1] rfl rfl 0 0 rfl rfl rfl) rfl rfl hl.1 rfl (lv_room (Nat.le_of_ble_eq_true rfl)) dX6_goAway_37 ⟨(Nat.le_of_ble_eq_true rfl), (Nat.le_of_ble_eq_true rfl)⟩) hP hD hS hA [0, 1] [2] [1, 2, 0] rfl rfl rfl (by decide) rfl rfl (fun H locs hP hD hS => ?_)
      exact fin_i (u := (v5.1, (v5.2, rR, rD))) hF hx hb hr hlocks hK hP hD hS (Nat.le_of_ble_eq_true rfl) (Nat.le_of_ble_eq_true rfl) dX6_goAway_40
    · have hF := oF c4 hF
      refine lv_aload_n hx hb dX6_goAway_22 rfl (lv_at hl 0 rfl) ?_
      refine lv_bipush (v := (7 : Int32)) hx hb dX6_goAway_23 (by decide) ?_
      refine lv_aload_n hx hb dX6_goAway_25 rfl (lv_at hl 1 rfl) ?_
      refine lv_iload_n hx hb dX6_goAway_26 rfl (lv_at hl 2 rfl) ?_
      refine lv_iconst (v := (2 : Int32)) hx hb dX6_goAway_27 (by decide) ?_
      obtain ⟨v6, hv6, hF⟩ := oB hF
      refine call_i (wr := [(aR, .inr (4, [.int rR, .int rD]))]) (wn := [(aC, .inr (0, [.ref aCr])), (aCr, .inl (K 0, 55, .inl row)), (aR, .inr (4, [.int rR, .int rD]))]) (va_runV (As := [.int p2, .int (2 : Int32)]) (rest := [.int (7 : Int32), .ref aR]) ⟨hx, hb, hml, hown, hts⟩ (c_X0_of l D K aC aCr row p2 (2 : Int32) v6 hv6 H.size) (cwV 2 hts gX6_goAway_X0_of rfl rfl rfl (by decide +kernel) ⟨(Nat.le_of_ble_eq_true rfl), (Nat.le_of_ble_eq_true rfl)⟩) (prV hE hK hP hD hS hA [0, 1] rfl rfl 0 0 rfl rfl rfl) rfl rfl hl.1 rfl (lv_room (Nat.le_of_ble_eq_true rfl)) dX6_goAway_28 ⟨(Nat.le_of_ble_eq_true rfl), (Nat.le_of_ble_eq_true rfl)⟩) hP hD hS hA [0, 1] [2] [1, 2, 0] rfl rfl rfl (by decide) rfl rfl (fun H locs hP hD hS => ?_)
      obtain ⟨v7, hv7, hF⟩ := oB hF
      refine call_i (wr := [(aC, .inr (0, [.ref aCr])), (aCr, .inl (K 0, 55, .inl row))]) (wn := [(aC, .inr (0, [.ref aCr])), (aCr, .inl (K 0, 55, .inl row)), (aR, .inr (4, [.int v7.2.1, .int v7.2.2]))]) (va_runV (As := [.int (7 : Int32), .int v6.1]) (rest := []) ⟨hx, hb, hml, hown, hts⟩ (c_X6_refuse l D K aR rR rD (7 : Int32) v6.1 v7 hv7 H.size) (cwV 2 hts gX6_goAway_X6_refuse rfl rfl rfl (by decide +kernel) ⟨(Nat.le_of_ble_eq_true rfl), (Nat.le_of_ble_eq_true rfl)⟩) (prV hE hK hP hD hS hA [2] rfl rfl 4 2 rfl rfl rfl) rfl rfl hl.1 rfl (lv_room (Nat.le_of_ble_eq_true rfl)) dX6_goAway_31 ⟨(Nat.le_of_ble_eq_true rfl), (Nat.le_of_ble_eq_true rfl)⟩) hP hD hS hA [2] [0, 1] [0, 1, 2] rfl rfl rfl (by decide) rfl rfl (fun H locs hP hD hS => ?_)
      exact fin_i (u := (v7.1, (row, v7.2.1, v7.2.2))) hF hx hb hr hlocks hK hP hD hS (Nat.le_of_ble_eq_true rfl) (Nat.le_of_ble_eq_true rfl) dX6_goAway_34
  · have hF := oT c2 hF
    refine lv_aload_n hx hb dX6_goAway_8 rfl (lv_at hl 0 rfl) ?_
    refine lv_aload_n hx hb dX6_goAway_9 rfl (lv_at hl 1 rfl) ?_
    obtain ⟨v8, hv8, hF⟩ := oB hF
    refine call_i (wr := []) (wn := [(aC, .inr (0, [.ref aCr])), (aCr, .inl (K 0, 55, .inl row)), (aR, .inr (4, [.int v8.2.1, .int v8.2.2]))]) (va_runV (As := [.ref aC]) (rest := []) ⟨hx, hb, hml, hown, hts⟩ (c_X6_refuseStranger l D K aC aCr aR row rR rD v8 hv8 H.size) (cwV 1 hts gX6_goAway_X6_refuseStranger rfl rfl rfl (by decide +kernel) ⟨(Nat.le_of_ble_eq_true rfl), (Nat.le_of_ble_eq_true rfl)⟩) (prV hE hK hP hD hS hA [0, 1, 2] rfl rfl 4 2 rfl rfl rfl) rfl rfl hl.1 rfl (lv_room (Nat.le_of_ble_eq_true rfl)) dX6_goAway_10 ⟨(Nat.le_of_ble_eq_true rfl), (Nat.le_of_ble_eq_true rfl)⟩) hP hD hS hA [0, 1, 2] [] [0, 1, 2] rfl rfl rfl (by decide) rfl rfl (fun H locs hP hD hS => ?_)
    exact fin_i (u := (v8.1, (row, v8.2.1, v8.2.2))) hF hx hb hr hlocks hK hP hD hS (Nat.le_of_ble_eq_true rfl) (Nat.le_of_ble_eq_true rfl) dX6_goAway_13
abbrev RM_X6_climb : Room := { frames := 3, cells := 0, slots := 0, locals := 68 }
abbrev MC_X6_climb : Nat := 0
abbrev MS_X6_climb : Nat := 0
abbrev wf_X6_climb (K : Nat → ClassId) (aC : Nat) (aCr : Nat) (aR : Nat)  (v : Int32 × (Nat → Int32) × Int32 × Int32) : va_W := [(aC, .inr (0, [.ref aCr])), (aCr, .inl (K 0, 55, .inl v.2.1)), (aR, .inr (4, [.int v.2.2.1, .int v.2.2.2]))]
set_option maxHeartbeats 4000000 in
set_option maxRecDepth 100000 in
theorem c_X6_climb (l : Launch) (D : va_G) (K : Nat → ClassId) (aC : Nat) (aCr : Nat) (aR : Nat) (row : Nat → Int32) (rR : Int32) (rD : Int32) (p2 : Int32) (p3 : Int32) (v : Int32 × (Nat → Int32) × Int32 × Int32) (hF : f_X6_climb row rR rD p2 p3 = some v) (sz : Nat) :
    (Met l yX6_climb wsX6_climb RM_X6_climb (PC D (TY K) [(aC, .inr (0, [.ref aCr])), (aCr, .inl (K 0, 55, .inl row)), (aR, .inr (4, [.int rR, .int rD]))] [.ref aR, .ref aC, .int p2, .int p3] sz) (QI D (TY K) (wf_X6_climb K aC aCr aR) v (va_A [(aC, .inr (0, [.ref aCr])), (aCr, .inl (K 0, 55, .inl row)), (aR, .inr (4, [.int rR, .int rD]))] sz)) MC_X6_climb MS_X6_climb (va_A [(aC, .inr (0, [.ref aCr])), (aCr, .inl (K 0, 55, .inl row)), (aR, .inr (4, [.int rR, .int rD]))] sz)) := by
  refine pro (Qf := fun A => QI D (TY K) (wf_X6_climb K aC aCr aR) v A) (cc := cX6_climb) (maxL := 5) (ret := (some .int)) (by decide +kernel) rfl (Nat.le_of_ble_eq_true rfl) ?_
  intro p e s m args below meth c hx hb hr hts hown hlocks hml hini hK A hA hE hP hD hS ls hl
  have hown : s.vm.findClass RX6 = some m.cls := hown
  have hl : lv_has ls 5 [(0, .ref aR), (1, .ref aC), (2, .int p2), (3, .int p3)] := hl
  rw [f_X6_climb] at hF
  refine lv_aload_n hx hb dX6_climb_0 rfl (lv_at hl 1 rfl) ?_
  refine lv_iload_n hx hb dX6_climb_1 rfl (lv_at hl 2 rfl) ?_
  obtain ⟨v1, hv1, hF⟩ := oB hF
  refine call_i (wr := [(aR, .inr (4, [.int rR, .int rD]))]) (wn := [(aC, .inr (0, [.ref aCr])), (aCr, .inl (K 0, 55, .inl row)), (aR, .inr (4, [.int rR, .int rD]))]) (va_runV (As := [.int p2]) (rest := []) ⟨hx, hb, hml, hown, hts⟩ (c_X0_isMember l D K aC aCr row p2 v1 hv1 s.heap.size) (cwV 1 hts gX6_climb_X0_isMember rfl rfl rfl (by decide +kernel) ⟨(Nat.le_of_ble_eq_true rfl), (Nat.le_of_ble_eq_true rfl)⟩) (prV hE hK hP hD hS hA [0, 1] rfl rfl 0 0 rfl rfl rfl) rfl rfl hl.1 rfl (lv_room (Nat.le_of_ble_eq_true rfl)) dX6_climb_2 ⟨(Nat.le_of_ble_eq_true rfl), (Nat.le_of_ble_eq_true rfl)⟩) hP hD hS hA [0, 1] [2] [1, 2, 0] rfl rfl rfl (by decide) rfl rfl (fun H locs hP hD hS => ?_)
  refine lv_if_ne (tgt := 14) hx hb dX6_climb_5 (by decide) (fun c2 => ?_) (fun c2 => ?_)
  · have hF := oF c2 hF
    refine lv_iload_n hx hb dX6_climb_14 rfl (lv_at hl 3 rfl) ?_
    obtain ⟨v3, hv3, hF⟩ := oB hF
    refine call_i (wr := [(aC, .inr (0, [.ref aCr])), (aCr, .inl (K 0, 55, .inl row)), (aR, .inr (4, [.int rR, .int rD]))]) (wn := [(aC, .inr (0, [.ref aCr])), (aCr, .inl (K 0, 55, .inl row)), (aR, .inr (4, [.int rR, .int rD]))]) (va_runSN (As := [.int p3]) (rest := []) ⟨hx, hb, hml, hown, hts⟩ (c_X7_isHeight l D K p3 v3 hv3 H.size) ⟨va_cnB 1 hts gX6_climb_X7_isHeight_n62 rfl rfl rfl (hE.2.2.1 _ (List.mem_of_getElem? (i := 4) rfl)) (hts (.initialized RX7) (List.mem_of_getElem? (i := 27) rfl)) (by decide +kernel) ⟨(Nat.le_of_ble_eq_true rfl), (Nat.le_of_ble_eq_true rfl)⟩, (hts (.static yX7_isHeight) (List.mem_of_getElem? (i := 26) rfl)), trivial⟩ (prS hE hK hP hD hS hA [] rfl rfl) rfl rfl hl.1 rfl (lv_room (Nat.le_of_ble_eq_true rfl)) dX6_climb_15 ⟨(Nat.le_of_ble_eq_true rfl), (Nat.le_of_ble_eq_true rfl)⟩) hP hD hS hA [] [0, 1, 2] [0, 1, 2] rfl rfl rfl (by decide) rfl rfl (fun H locs hP hD hS => ?_)
    refine lv_if_ne (tgt := 28) hx hb dX6_climb_18 (by decide) (fun c4 => ?_) (fun c4 => ?_)
    · have hF := oF c4 hF
      refine lv_aload_n hx hb dX6_climb_28 rfl (lv_at hl 1 rfl) ?_
      refine lv_iload_n hx hb dX6_climb_29 rfl (lv_at hl 3 rfl) ?_
      obtain ⟨v5, hv5, hF⟩ := oB hF
      refine call_i (wr := [(aR, .inr (4, [.int rR, .int rD]))]) (wn := [(aC, .inr (0, [.ref aCr])), (aCr, .inl (K 0, 55, .inl row)), (aR, .inr (4, [.int rR, .int rD]))]) (va_runV (As := [.int p3]) (rest := []) ⟨hx, hb, hml, hown, hts⟩ (c_X0_isFree l D K aC aCr row p3 v5 hv5 H.size) (cwV 1 hts gX6_climb_X0_isFree rfl rfl rfl (by decide +kernel) ⟨(Nat.le_of_ble_eq_true rfl), (Nat.le_of_ble_eq_true rfl)⟩) (prV hE hK hP hD hS hA [0, 1] rfl rfl 0 0 rfl rfl rfl) rfl rfl hl.1 rfl (lv_room (Nat.le_of_ble_eq_true rfl)) dX6_climb_30 ⟨(Nat.le_of_ble_eq_true rfl), (Nat.le_of_ble_eq_true rfl)⟩) hP hD hS hA [0, 1] [2] [1, 2, 0] rfl rfl rfl (by decide) rfl rfl (fun H locs hP hD hS => ?_)
      refine lv_if_ne (tgt := 47) hx hb dX6_climb_33 (by decide) (fun c6 => ?_) (fun c6 => ?_)
      · have hF := oF c6 hF
        refine lv_iconst (v := (2 : Int32)) hx hb dX6_climb_47 (by decide) ?_
        refine lv_iload_n hx hb dX6_climb_48 rfl (lv_at hl 3 rfl) ?_
        refine lv_aload_n hx hb dX6_climb_49 rfl (lv_at hl 1 rfl) ?_
        refine lv_iload_n hx hb dX6_climb_50 rfl (lv_at hl 2 rfl) ?_
        refine lv_iconst (v := (1 : Int32)) hx hb dX6_climb_51 (by decide) ?_
        obtain ⟨v7, hv7, hF⟩ := oB hF
        refine call_i (wr := [(aR, .inr (4, [.int rR, .int rD]))]) (wn := [(aC, .inr (0, [.ref aCr])), (aCr, .inl (K 0, 55, .inl row)), (aR, .inr (4, [.int rR, .int rD]))]) (va_runV (As := [.int p2, .int (1 : Int32)]) (rest := [.int p3, .int (2 : Int32)]) ⟨hx, hb, hml, hown, hts⟩ (c_X0_of l D K aC aCr row p2 (1 : Int32) v7 hv7 H.size) (cwV 2 hts gX6_climb_X0_of rfl rfl rfl (by decide +kernel) ⟨(Nat.le_of_ble_eq_true rfl), (Nat.le_of_ble_eq_true rfl)⟩) (prV hE hK hP hD hS hA [0, 1] rfl rfl 0 0 rfl rfl rfl) rfl rfl hl.1 rfl (lv_room (Nat.le_of_ble_eq_true rfl)) dX6_climb_52 ⟨(Nat.le_of_ble_eq_true rfl), (Nat.le_of_ble_eq_true rfl)⟩) hP hD hS hA [0, 1] [2] [1, 2, 0] rfl rfl rfl (by decide) rfl rfl (fun H locs hP hD hS => ?_)
        refine lv_isub hx hb dX6_climb_55 ?_
        refine va_mabs hx hb (hml.trans hl.1.symm) hown (hts (.methodLink RX6 90 Lib.Math.abs.name) (List.mem_of_getElem? (i := 1) rfl)) (hts (.static Lib.Math.abs.name) (List.mem_of_getElem? (i := 2) rfl)) (hts (.initialized "java/lang/Math") (List.mem_of_getElem? (i := 3) rfl)) (hts (.code Lib.Math.abs.name Lib.Math.abs.code 1 (some .int)) (List.mem_of_getElem? (i := 4) rfl)) (Nat.le_of_ble_eq_true rfl) (Nat.le_of_ble_eq_true rfl) (Nat.le_of_ble_eq_true rfl) (Nat.le_of_ble_eq_true rfl) dX6_climb_56 ?_
        refine W.eq (g2 := F0 m 59 ls [.int (jabs (p3 - v7.1)), .int (2 : Int32)]) rfl ?_
        refine lv_imul hx hb dX6_climb_59 ?_
        refine lv_istore (lv' := [(4, .int ((2 : Int32) * (jabs (p3 - v7.1)))), (0, .ref aR), (1, .ref aC), (2, .int p2), (3, .int p3)]) hx hb dX6_climb_60 hl (by decide) rfl (fun ls hl => ?_)
        refine lv_iload hx hb dX6_climb_62 (lv_at hl 0 rfl) ?_
        refine lv_aload_n hx hb dX6_climb_64 rfl (lv_at hl 2 rfl) ?_
        refine lv_iload_n hx hb dX6_climb_65 rfl (lv_at hl 3 rfl) ?_
        refine lv_iconst (v := (0 : Int32)) hx hb dX6_climb_66 (by decide) ?_
        obtain ⟨v8, hv8, hF⟩ := oB hF
        refine call_i (wr := [(aR, .inr (4, [.int rR, .int rD]))]) (wn := [(aC, .inr (0, [.ref aCr])), (aCr, .inl (K 0, 55, .inl row)), (aR, .inr (4, [.int rR, .int rD]))]) (va_runV (As := [.int p2, .int (0 : Int32)]) (rest := [.int ((2 : Int32) * (jabs (p3 - v7.1)))]) ⟨hx, hb, hml, hown, hts⟩ (c_X0_of l D K aC aCr row p2 (0 : Int32) v8 hv8 H.size) (cwV 2 hts gX6_climb_X0_of rfl rfl rfl (by decide +kernel) ⟨(Nat.le_of_ble_eq_true rfl), (Nat.le_of_ble_eq_true rfl)⟩) (prV hE hK hP hD hS hA [0, 1] rfl rfl 0 0 rfl rfl rfl) rfl rfl hl.1 rfl (lv_room (Nat.le_of_ble_eq_true rfl)) dX6_climb_67 ⟨(Nat.le_of_ble_eq_true rfl), (Nat.le_of_ble_eq_true rfl)⟩) hP hD hS hA [0, 1] [2] [1, 2, 0] rfl rfl rfl (by decide) rfl rfl (fun H locs hP hD hS => ?_)
        refine lv_icmp_le (tgt := 88) hx hb dX6_climb_70 (by decide) (fun c9 => ?_) (fun c9 => ?_)
        · have hF := oT c9 hF
          refine lv_aload_n hx hb dX6_climb_88 rfl (lv_at hl 2 rfl) ?_
          refine lv_iload_n hx hb dX6_climb_89 rfl (lv_at hl 3 rfl) ?_
          refine lv_iload hx hb dX6_climb_90 (lv_at hl 0 rfl) ?_
          obtain ⟨v10, hv10, hF⟩ := oB hF
          refine call_v (wr := [(aR, .inr (4, [.int rR, .int rD]))]) (wn := [(aC, .inr (0, [.ref aCr])), (aCr, .inl (K 0, 55, .inl v10)), (aR, .inr (4, [.int rR, .int rD]))]) (va_runV (As := [.int p2, .int ((2 : Int32) * (jabs (p3 - v7.1)))]) (rest := []) ⟨hx, hb, hml, hown, hts⟩ (c_X0_payIntoPot l D K aC aCr row p2 ((2 : Int32) * (jabs (p3 - v7.1))) v10 hv10 H.size) (cwV 2 hts gX6_climb_X0_payIntoPot rfl rfl rfl (by decide +kernel) ⟨(Nat.le_of_ble_eq_true rfl), (Nat.le_of_ble_eq_true rfl)⟩) (prV hE hK hP hD hS hA [0, 1] rfl rfl 0 0 rfl rfl rfl) rfl rfl hl.1 rfl (lv_room (Nat.le_of_ble_eq_true rfl)) dX6_climb_92 ⟨(Nat.le_of_ble_eq_true rfl), (Nat.le_of_ble_eq_true rfl)⟩) hP hD hS hA [0, 1] [2] [1, 2, 0] rfl rfl rfl (by decide) rfl rfl (fun H locs hP hD hS => ?_)
          refine lv_aload_n hx hb dX6_climb_95 rfl (lv_at hl 2 rfl) ?_
          refine lv_bipush (v := (10 : Int32)) hx hb dX6_climb_96 (by decide) ?_
          refine lv_iload hx hb dX6_climb_98 (lv_at hl 0 rfl) ?_
          obtain ⟨v11, hv11, hF⟩ := oB hF
          refine call_v (wr := [(aR, .inr (4, [.int rR, .int rD]))]) (wn := [(aC, .inr (0, [.ref aCr])), (aCr, .inl (K 0, 55, .inl v11)), (aR, .inr (4, [.int rR, .int rD]))]) (va_runV (As := [.int (10 : Int32), .int ((2 : Int32) * (jabs (p3 - v7.1)))]) (rest := []) ⟨hx, hb, hml, hown, hts⟩ (c_X0_add l D K aC aCr v10 (10 : Int32) ((2 : Int32) * (jabs (p3 - v7.1))) v11 hv11 H.size) (cwV 2 hts gX6_climb_X0_add rfl rfl rfl (by decide +kernel) ⟨(Nat.le_of_ble_eq_true rfl), (Nat.le_of_ble_eq_true rfl)⟩) (prV hE hK hP hD hS hA [0, 1] rfl rfl 0 0 rfl rfl rfl) rfl rfl hl.1 rfl (lv_room (Nat.le_of_ble_eq_true rfl)) dX6_climb_100 ⟨(Nat.le_of_ble_eq_true rfl), (Nat.le_of_ble_eq_true rfl)⟩) hP hD hS hA [0, 1] [2] [1, 2, 0] rfl rfl rfl (by decide) rfl rfl (fun H locs hP hD hS => ?_)
          refine lv_aload_n hx hb dX6_climb_103 rfl (lv_at hl 2 rfl) ?_
          refine lv_iload_n hx hb dX6_climb_104 rfl (lv_at hl 3 rfl) ?_
          refine lv_iconst (v := (1 : Int32)) hx hb dX6_climb_105 (by decide) ?_
          refine lv_iload_n hx hb dX6_climb_106 rfl (lv_at hl 4 rfl) ?_
          obtain ⟨v12, hv12, hF⟩ := oB hF
          refine call_v (wr := [(aR, .inr (4, [.int rR, .int rD]))]) (wn := [(aC, .inr (0, [.ref aCr])), (aCr, .inl (K 0, 55, .inl v12)), (aR, .inr (4, [.int rR, .int rD]))]) (va_runV (As := [.int p2, .int (1 : Int32), .int p3]) (rest := []) ⟨hx, hb, hml, hown, hts⟩ (c_X0_setOf l D K aC aCr v11 p2 (1 : Int32) p3 v12 hv12 H.size) (cwV 3 hts gX6_climb_X0_setOf rfl rfl rfl (by decide +kernel) ⟨(Nat.le_of_ble_eq_true rfl), (Nat.le_of_ble_eq_true rfl)⟩) (prV hE hK hP hD hS hA [0, 1] rfl rfl 0 0 rfl rfl rfl) rfl rfl hl.1 rfl (lv_room (Nat.le_of_ble_eq_true rfl)) dX6_climb_107 ⟨(Nat.le_of_ble_eq_true rfl), (Nat.le_of_ble_eq_true rfl)⟩) hP hD hS hA [0, 1] [2] [1, 2, 0] rfl rfl rfl (by decide) rfl rfl (fun H locs hP hD hS => ?_)
          refine lv_aload_n hx hb dX6_climb_110 rfl (lv_at hl 2 rfl) ?_
          refine lv_iload_n hx hb dX6_climb_111 rfl (lv_at hl 3 rfl) ?_
          refine lv_iconst (v := (0 : Int32)) hx hb dX6_climb_112 (by decide) ?_
          obtain ⟨v13, hv13, hF⟩ := oB hF
          refine call_i (wr := [(aR, .inr (4, [.int rR, .int rD]))]) (wn := [(aC, .inr (0, [.ref aCr])), (aCr, .inl (K 0, 55, .inl v12)), (aR, .inr (4, [.int rR, .int rD]))]) (va_runV (As := [.int p2, .int (0 : Int32)]) (rest := []) ⟨hx, hb, hml, hown, hts⟩ (c_X0_of l D K aC aCr v12 p2 (0 : Int32) v13 hv13 H.size) (cwV 2 hts gX6_climb_X0_of rfl rfl rfl (by decide +kernel) ⟨(Nat.le_of_ble_eq_true rfl), (Nat.le_of_ble_eq_true rfl)⟩) (prV hE hK hP hD hS hA [0, 1] rfl rfl 0 0 rfl rfl rfl) rfl rfl hl.1 rfl (lv_room (Nat.le_of_ble_eq_true rfl)) dX6_climb_113 ⟨(Nat.le_of_ble_eq_true rfl), (Nat.le_of_ble_eq_true rfl)⟩) hP hD hS hA [0, 1] [2] [1, 2, 0] rfl rfl rfl (by decide) rfl rfl (fun H locs hP hD hS => ?_)
          exact fin_i (u := (v13.1, (v12, rR, rD))) hF hx hb hr hlocks hK hP hD hS (Nat.le_of_ble_eq_true rfl) (Nat.le_of_ble_eq_true rfl) dX6_climb_116
        · have hF := oF c9 hF
          refine lv_aload_n hx hb dX6_climb_73 rfl (lv_at hl 1 rfl) ?_
          refine lv_iconst (v := (5 : Int32)) hx hb dX6_climb_74 (by decide) ?_
          refine lv_iload hx hb dX6_climb_75 (lv_at hl 0 rfl) ?_
          refine lv_aload_n hx hb dX6_climb_77 rfl (lv_at hl 2 rfl) ?_
          refine lv_iload_n hx hb dX6_climb_78 rfl (lv_at hl 3 rfl) ?_
          refine lv_iconst (v := (0 : Int32)) hx hb dX6_climb_79 (by decide) ?_
          obtain ⟨v14, hv14, hF⟩ := oB hF
          refine call_i (wr := [(aR, .inr (4, [.int rR, .int rD]))]) (wn := [(aC, .inr (0, [.ref aCr])), (aCr, .inl (K 0, 55, .inl row)), (aR, .inr (4, [.int rR, .int rD]))]) (va_runV (As := [.int p2, .int (0 : Int32)]) (rest := [.int ((2 : Int32) * (jabs (p3 - v7.1))), .int (5 : Int32), .ref aR]) ⟨hx, hb, hml, hown, hts⟩ (c_X0_of l D K aC aCr row p2 (0 : Int32) v14 hv14 H.size) (cwV 2 hts gX6_climb_X0_of rfl rfl rfl (by decide +kernel) ⟨(Nat.le_of_ble_eq_true rfl), (Nat.le_of_ble_eq_true rfl)⟩) (prV hE hK hP hD hS hA [0, 1] rfl rfl 0 0 rfl rfl rfl) rfl rfl hl.1 rfl (lv_room (Nat.le_of_ble_eq_true rfl)) dX6_climb_80 ⟨(Nat.le_of_ble_eq_true rfl), (Nat.le_of_ble_eq_true rfl)⟩) hP hD hS hA [0, 1] [2] [1, 2, 0] rfl rfl rfl (by decide) rfl rfl (fun H locs hP hD hS => ?_)
          refine lv_isub hx hb dX6_climb_83 ?_
          obtain ⟨v15, hv15, hF⟩ := oB hF
          refine call_i (wr := [(aC, .inr (0, [.ref aCr])), (aCr, .inl (K 0, 55, .inl row))]) (wn := [(aC, .inr (0, [.ref aCr])), (aCr, .inl (K 0, 55, .inl row)), (aR, .inr (4, [.int v15.2.1, .int v15.2.2]))]) (va_runV (As := [.int (5 : Int32), .int (((2 : Int32) * (jabs (p3 - v7.1))) - v14.1)]) (rest := []) ⟨hx, hb, hml, hown, hts⟩ (c_X6_refuse l D K aR rR rD (5 : Int32) (((2 : Int32) * (jabs (p3 - v7.1))) - v14.1) v15 hv15 H.size) (cwV 2 hts gX6_climb_X6_refuse rfl rfl rfl (by decide +kernel) ⟨(Nat.le_of_ble_eq_true rfl), (Nat.le_of_ble_eq_true rfl)⟩) (prV hE hK hP hD hS hA [2] rfl rfl 4 2 rfl rfl rfl) rfl rfl hl.1 rfl (lv_room (Nat.le_of_ble_eq_true rfl)) dX6_climb_84 ⟨(Nat.le_of_ble_eq_true rfl), (Nat.le_of_ble_eq_true rfl)⟩) hP hD hS hA [2] [0, 1] [0, 1, 2] rfl rfl rfl (by decide) rfl rfl (fun H locs hP hD hS => ?_)
          exact fin_i (u := (v15.1, (row, v15.2.1, v15.2.2))) hF hx hb hr hlocks hK hP hD hS (Nat.le_of_ble_eq_true rfl) (Nat.le_of_ble_eq_true rfl) dX6_climb_87
      · have hF := oT c6 hF
        refine lv_aload_n hx hb dX6_climb_36 rfl (lv_at hl 0 rfl) ?_
        refine lv_iconst (v := (3 : Int32)) hx hb dX6_climb_37 (by decide) ?_
        refine lv_aload_n hx hb dX6_climb_38 rfl (lv_at hl 1 rfl) ?_
        refine lv_iload_n hx hb dX6_climb_39 rfl (lv_at hl 3 rfl) ?_
        obtain ⟨v16, hv16, hF⟩ := oB hF
        refine call_i (wr := [(aR, .inr (4, [.int rR, .int rD]))]) (wn := [(aC, .inr (0, [.ref aCr])), (aCr, .inl (K 0, 55, .inl row)), (aR, .inr (4, [.int rR, .int rD]))]) (va_runV (As := [.int p3]) (rest := [.int (3 : Int32), .ref aR]) ⟨hx, hb, hml, hown, hts⟩ (c_X0_ownerOf l D K aC aCr row p3 v16 hv16 H.size) (cwV 1 hts gX6_climb_X0_ownerOf rfl rfl rfl (by decide +kernel) ⟨(Nat.le_of_ble_eq_true rfl), (Nat.le_of_ble_eq_true rfl)⟩) (prV hE hK hP hD hS hA [0, 1] rfl rfl 0 0 rfl rfl rfl) rfl rfl hl.1 rfl (lv_room (Nat.le_of_ble_eq_true rfl)) dX6_climb_40 ⟨(Nat.le_of_ble_eq_true rfl), (Nat.le_of_ble_eq_true rfl)⟩) hP hD hS hA [0, 1] [2] [1, 2, 0] rfl rfl rfl (by decide) rfl rfl (fun H locs hP hD hS => ?_)
        obtain ⟨v17, hv17, hF⟩ := oB hF
        refine call_i (wr := [(aC, .inr (0, [.ref aCr])), (aCr, .inl (K 0, 55, .inl row))]) (wn := [(aC, .inr (0, [.ref aCr])), (aCr, .inl (K 0, 55, .inl row)), (aR, .inr (4, [.int v17.2.1, .int v17.2.2]))]) (va_runV (As := [.int (3 : Int32), .int v16.1]) (rest := []) ⟨hx, hb, hml, hown, hts⟩ (c_X6_refuse l D K aR rR rD (3 : Int32) v16.1 v17 hv17 H.size) (cwV 2 hts gX6_climb_X6_refuse rfl rfl rfl (by decide +kernel) ⟨(Nat.le_of_ble_eq_true rfl), (Nat.le_of_ble_eq_true rfl)⟩) (prV hE hK hP hD hS hA [2] rfl rfl 4 2 rfl rfl rfl) rfl rfl hl.1 rfl (lv_room (Nat.le_of_ble_eq_true rfl)) dX6_climb_43 ⟨(Nat.le_of_ble_eq_true rfl), (Nat.le_of_ble_eq_true rfl)⟩) hP hD hS hA [2] [0, 1] [0, 1, 2] rfl rfl rfl (by decide) rfl rfl (fun H locs hP hD hS => ?_)
        exact fin_i (u := (v17.1, (row, v17.2.1, v17.2.2))) hF hx hb hr hlocks hK hP hD hS (Nat.le_of_ble_eq_true rfl) (Nat.le_of_ble_eq_true rfl) dX6_climb_46
    · have hF := oT c4 hF
      refine lv_aload_n hx hb dX6_climb_21 rfl (lv_at hl 0 rfl) ?_
      refine lv_iconst (v := (1 : Int32)) hx hb dX6_climb_22 (by decide) ?_
      refine lv_iconst (v := (0 : Int32)) hx hb dX6_climb_23 (by decide) ?_
      obtain ⟨v18, hv18, hF⟩ := oB hF
      refine call_i (wr := [(aC, .inr (0, [.ref aCr])), (aCr, .inl (K 0, 55, .inl row))]) (wn := [(aC, .inr (0, [.ref aCr])), (aCr, .inl (K 0, 55, .inl row)), (aR, .inr (4, [.int v18.2.1, .int v18.2.2]))]) (va_runV (As := [.int (1 : Int32), .int (0 : Int32)]) (rest := []) ⟨hx, hb, hml, hown, hts⟩ (c_X6_refuse l D K aR rR rD (1 : Int32) (0 : Int32) v18 hv18 H.size) (cwV 2 hts gX6_climb_X6_refuse rfl rfl rfl (by decide +kernel) ⟨(Nat.le_of_ble_eq_true rfl), (Nat.le_of_ble_eq_true rfl)⟩) (prV hE hK hP hD hS hA [2] rfl rfl 4 2 rfl rfl rfl) rfl rfl hl.1 rfl (lv_room (Nat.le_of_ble_eq_true rfl)) dX6_climb_24 ⟨(Nat.le_of_ble_eq_true rfl), (Nat.le_of_ble_eq_true rfl)⟩) hP hD hS hA [2] [0, 1] [0, 1, 2] rfl rfl rfl (by decide) rfl rfl (fun H locs hP hD hS => ?_)
      exact fin_i (u := (v18.1, (row, v18.2.1, v18.2.2))) hF hx hb hr hlocks hK hP hD hS (Nat.le_of_ble_eq_true rfl) (Nat.le_of_ble_eq_true rfl) dX6_climb_27
  · have hF := oT c2 hF
    refine lv_aload_n hx hb dX6_climb_8 rfl (lv_at hl 0 rfl) ?_
    refine lv_aload_n hx hb dX6_climb_9 rfl (lv_at hl 1 rfl) ?_
    obtain ⟨v19, hv19, hF⟩ := oB hF
    refine call_i (wr := []) (wn := [(aC, .inr (0, [.ref aCr])), (aCr, .inl (K 0, 55, .inl row)), (aR, .inr (4, [.int v19.2.1, .int v19.2.2]))]) (va_runV (As := [.ref aC]) (rest := []) ⟨hx, hb, hml, hown, hts⟩ (c_X6_refuseStranger l D K aC aCr aR row rR rD v19 hv19 H.size) (cwV 1 hts gX6_climb_X6_refuseStranger rfl rfl rfl (by decide +kernel) ⟨(Nat.le_of_ble_eq_true rfl), (Nat.le_of_ble_eq_true rfl)⟩) (prV hE hK hP hD hS hA [0, 1, 2] rfl rfl 4 2 rfl rfl rfl) rfl rfl hl.1 rfl (lv_room (Nat.le_of_ble_eq_true rfl)) dX6_climb_10 ⟨(Nat.le_of_ble_eq_true rfl), (Nat.le_of_ble_eq_true rfl)⟩) hP hD hS hA [0, 1, 2] [] [0, 1, 2] rfl rfl rfl (by decide) rfl rfl (fun H locs hP hD hS => ?_)
    exact fin_i (u := (v19.1, (row, v19.2.1, v19.2.2))) hF hx hb hr hlocks hK hP hD hS (Nat.le_of_ble_eq_true rfl) (Nat.le_of_ble_eq_true rfl) dX6_climb_13
abbrev RM_X6_swap : Room := { frames := 2, cells := 0, slots := 0, locals := 43 }
abbrev MC_X6_swap : Nat := 0
abbrev MS_X6_swap : Nat := 0
abbrev wf_X6_swap (K : Nat → ClassId) (aC : Nat) (aCr : Nat) (aR : Nat)  (v : Int32 × (Nat → Int32) × Int32 × Int32) : va_W := [(aC, .inr (0, [.ref aCr])), (aCr, .inl (K 0, 55, .inl v.2.1)), (aR, .inr (4, [.int v.2.2.1, .int v.2.2.2]))]
set_option maxHeartbeats 4000000 in
set_option maxRecDepth 100000 in
theorem c_X6_swap (l : Launch) (D : va_G) (K : Nat → ClassId) (aC : Nat) (aCr : Nat) (aR : Nat) (row : Nat → Int32) (rR : Int32) (rD : Int32) (p2 : Int32) (p3 : Int32) (v : Int32 × (Nat → Int32) × Int32 × Int32) (hF : f_X6_swap row rR rD p2 p3 = some v) (sz : Nat) :
    (Met l yX6_swap wsX6_swap RM_X6_swap (PC D (TY K) [(aC, .inr (0, [.ref aCr])), (aCr, .inl (K 0, 55, .inl row)), (aR, .inr (4, [.int rR, .int rD]))] [.ref aR, .ref aC, .int p2, .int p3] sz) (QI D (TY K) (wf_X6_swap K aC aCr aR) v (va_A [(aC, .inr (0, [.ref aCr])), (aCr, .inl (K 0, 55, .inl row)), (aR, .inr (4, [.int rR, .int rD]))] sz)) MC_X6_swap MS_X6_swap (va_A [(aC, .inr (0, [.ref aCr])), (aCr, .inl (K 0, 55, .inl row)), (aR, .inr (4, [.int rR, .int rD]))] sz)) := by
  refine pro (Qf := fun A => QI D (TY K) (wf_X6_swap K aC aCr aR) v A) (cc := cX6_swap) (maxL := 5) (ret := (some .int)) (by decide +kernel) rfl (Nat.le_of_ble_eq_true rfl) ?_
  intro p e s m args below meth c hx hb hr hts hown hlocks hml hini hK A hA hE hP hD hS ls hl
  have hown : s.vm.findClass RX6 = some m.cls := hown
  have hl : lv_has ls 5 [(0, .ref aR), (1, .ref aC), (2, .int p2), (3, .int p3)] := hl
  rw [f_X6_swap] at hF
  refine lv_aload_n hx hb dX6_swap_0 rfl (lv_at hl 1 rfl) ?_
  refine lv_iload_n hx hb dX6_swap_1 rfl (lv_at hl 2 rfl) ?_
  obtain ⟨v1, hv1, hF⟩ := oB hF
  refine call_i (wr := [(aR, .inr (4, [.int rR, .int rD]))]) (wn := [(aC, .inr (0, [.ref aCr])), (aCr, .inl (K 0, 55, .inl row)), (aR, .inr (4, [.int rR, .int rD]))]) (va_runV (As := [.int p2]) (rest := []) ⟨hx, hb, hml, hown, hts⟩ (c_X0_isMember l D K aC aCr row p2 v1 hv1 s.heap.size) (cwV 1 hts gX6_swap_X0_isMember rfl rfl rfl (by decide +kernel) ⟨(Nat.le_of_ble_eq_true rfl), (Nat.le_of_ble_eq_true rfl)⟩) (prV hE hK hP hD hS hA [0, 1] rfl rfl 0 0 rfl rfl rfl) rfl rfl hl.1 rfl (lv_room (Nat.le_of_ble_eq_true rfl)) dX6_swap_2 ⟨(Nat.le_of_ble_eq_true rfl), (Nat.le_of_ble_eq_true rfl)⟩) hP hD hS hA [0, 1] [2] [1, 2, 0] rfl rfl rfl (by decide) rfl rfl (fun H locs hP hD hS => ?_)
  refine lv_if_eq (tgt := 16) hx hb dX6_swap_5 (by decide) (fun c2 => ?_) (fun c2 => ?_)
  · have hF := oT c2 hF
    refine lv_aload_n hx hb dX6_swap_16 rfl (lv_at hl 0 rfl) ?_
    refine lv_aload_n hx hb dX6_swap_17 rfl (lv_at hl 1 rfl) ?_
    obtain ⟨v3, hv3, hF⟩ := oB hF
    refine call_i (wr := []) (wn := [(aC, .inr (0, [.ref aCr])), (aCr, .inl (K 0, 55, .inl row)), (aR, .inr (4, [.int v3.2.1, .int v3.2.2]))]) (va_runV (As := [.ref aC]) (rest := []) ⟨hx, hb, hml, hown, hts⟩ (c_X6_refuseStranger l D K aC aCr aR row rR rD v3 hv3 H.size) (cwV 1 hts gX6_swap_X6_refuseStranger rfl rfl rfl (by decide +kernel) ⟨(Nat.le_of_ble_eq_true rfl), (Nat.le_of_ble_eq_true rfl)⟩) (prV hE hK hP hD hS hA [0, 1, 2] rfl rfl 4 2 rfl rfl rfl) rfl rfl hl.1 rfl (lv_room (Nat.le_of_ble_eq_true rfl)) dX6_swap_18 ⟨(Nat.le_of_ble_eq_true rfl), (Nat.le_of_ble_eq_true rfl)⟩) hP hD hS hA [0, 1, 2] [] [0, 1, 2] rfl rfl rfl (by decide) rfl rfl (fun H locs hP hD hS => ?_)
    exact fin_i (u := (v3.1, (row, v3.2.1, v3.2.2))) hF hx hb hr hlocks hK hP hD hS (Nat.le_of_ble_eq_true rfl) (Nat.le_of_ble_eq_true rfl) dX6_swap_21
  · have hF := oF c2 hF
    refine lv_aload_n hx hb dX6_swap_8 rfl (lv_at hl 1 rfl) ?_
    refine lv_iload_n hx hb dX6_swap_9 rfl (lv_at hl 3 rfl) ?_
    obtain ⟨v4, hv4, hF⟩ := oB hF
    refine call_i (wr := [(aR, .inr (4, [.int rR, .int rD]))]) (wn := [(aC, .inr (0, [.ref aCr])), (aCr, .inl (K 0, 55, .inl row)), (aR, .inr (4, [.int rR, .int rD]))]) (va_runV (As := [.int p3]) (rest := []) ⟨hx, hb, hml, hown, hts⟩ (c_X0_isMember l D K aC aCr row p3 v4 hv4 H.size) (cwV 1 hts gX6_swap_X0_isMember rfl rfl rfl (by decide +kernel) ⟨(Nat.le_of_ble_eq_true rfl), (Nat.le_of_ble_eq_true rfl)⟩) (prV hE hK hP hD hS hA [0, 1] rfl rfl 0 0 rfl rfl rfl) rfl rfl hl.1 rfl (lv_room (Nat.le_of_ble_eq_true rfl)) dX6_swap_10 ⟨(Nat.le_of_ble_eq_true rfl), (Nat.le_of_ble_eq_true rfl)⟩) hP hD hS hA [0, 1] [2] [1, 2, 0] rfl rfl rfl (by decide) rfl rfl (fun H locs hP hD hS => ?_)
    refine lv_if_ne (tgt := 22) hx hb dX6_swap_13 (by decide) (fun c5 => ?_) (fun c5 => ?_)
    · have hF := oF c5 hF
      refine lv_iload_n hx hb dX6_swap_22 rfl (lv_at hl 2 rfl) ?_
      refine lv_iload_n hx hb dX6_swap_23 rfl (lv_at hl 3 rfl) ?_
      refine lv_icmp_ne (tgt := 35) hx hb dX6_swap_24 (by decide) (fun c6 => ?_) (fun c6 => ?_)
      · have hF := oF c6 hF
        refine lv_aload_n hx hb dX6_swap_35 rfl (lv_at hl 1 rfl) ?_
        refine lv_iload_n hx hb dX6_swap_36 rfl (lv_at hl 2 rfl) ?_
        refine lv_iconst (v := (1 : Int32)) hx hb dX6_swap_37 (by decide) ?_
        obtain ⟨v7, hv7, hF⟩ := oB hF
        refine call_i (wr := [(aR, .inr (4, [.int rR, .int rD]))]) (wn := [(aC, .inr (0, [.ref aCr])), (aCr, .inl (K 0, 55, .inl row)), (aR, .inr (4, [.int rR, .int rD]))]) (va_runV (As := [.int p2, .int (1 : Int32)]) (rest := []) ⟨hx, hb, hml, hown, hts⟩ (c_X0_of l D K aC aCr row p2 (1 : Int32) v7 hv7 H.size) (cwV 2 hts gX6_swap_X0_of rfl rfl rfl (by decide +kernel) ⟨(Nat.le_of_ble_eq_true rfl), (Nat.le_of_ble_eq_true rfl)⟩) (prV hE hK hP hD hS hA [0, 1] rfl rfl 0 0 rfl rfl rfl) rfl rfl hl.1 rfl (lv_room (Nat.le_of_ble_eq_true rfl)) dX6_swap_38 ⟨(Nat.le_of_ble_eq_true rfl), (Nat.le_of_ble_eq_true rfl)⟩) hP hD hS hA [0, 1] [2] [1, 2, 0] rfl rfl rfl (by decide) rfl rfl (fun H locs hP hD hS => ?_)
        refine lv_istore (lv' := [(4, .int v7.1), (0, .ref aR), (1, .ref aC), (2, .int p2), (3, .int p3)]) hx hb dX6_swap_41 hl (by decide) rfl (fun ls hl => ?_)
        refine lv_aload_n hx hb dX6_swap_43 rfl (lv_at hl 2 rfl) ?_
        refine lv_iload_n hx hb dX6_swap_44 rfl (lv_at hl 3 rfl) ?_
        refine lv_iconst (v := (1 : Int32)) hx hb dX6_swap_45 (by decide) ?_
        refine lv_aload_n hx hb dX6_swap_46 rfl (lv_at hl 2 rfl) ?_
        refine lv_iload_n hx hb dX6_swap_47 rfl (lv_at hl 4 rfl) ?_
        refine lv_iconst (v := (1 : Int32)) hx hb dX6_swap_48 (by decide) ?_
        obtain ⟨v8, hv8, hF⟩ := oB hF
        refine call_i (wr := [(aR, .inr (4, [.int rR, .int rD]))]) (wn := [(aC, .inr (0, [.ref aCr])), (aCr, .inl (K 0, 55, .inl row)), (aR, .inr (4, [.int rR, .int rD]))]) (va_runV (As := [.int p3, .int (1 : Int32)]) (rest := [.int (1 : Int32), .int p2, .ref aC]) ⟨hx, hb, hml, hown, hts⟩ (c_X0_of l D K aC aCr row p3 (1 : Int32) v8 hv8 H.size) (cwV 2 hts gX6_swap_X0_of rfl rfl rfl (by decide +kernel) ⟨(Nat.le_of_ble_eq_true rfl), (Nat.le_of_ble_eq_true rfl)⟩) (prV hE hK hP hD hS hA [0, 1] rfl rfl 0 0 rfl rfl rfl) rfl rfl hl.1 rfl (lv_room (Nat.le_of_ble_eq_true rfl)) dX6_swap_49 ⟨(Nat.le_of_ble_eq_true rfl), (Nat.le_of_ble_eq_true rfl)⟩) hP hD hS hA [0, 1] [2] [1, 2, 0] rfl rfl rfl (by decide) rfl rfl (fun H locs hP hD hS => ?_)
        obtain ⟨v9, hv9, hF⟩ := oB hF
        refine call_v (wr := [(aR, .inr (4, [.int rR, .int rD]))]) (wn := [(aC, .inr (0, [.ref aCr])), (aCr, .inl (K 0, 55, .inl v9)), (aR, .inr (4, [.int rR, .int rD]))]) (va_runV (As := [.int p2, .int (1 : Int32), .int v8.1]) (rest := []) ⟨hx, hb, hml, hown, hts⟩ (c_X0_setOf l D K aC aCr row p2 (1 : Int32) v8.1 v9 hv9 H.size) (cwV 3 hts gX6_swap_X0_setOf rfl rfl rfl (by decide +kernel) ⟨(Nat.le_of_ble_eq_true rfl), (Nat.le_of_ble_eq_true rfl)⟩) (prV hE hK hP hD hS hA [0, 1] rfl rfl 0 0 rfl rfl rfl) rfl rfl hl.1 rfl (lv_room (Nat.le_of_ble_eq_true rfl)) dX6_swap_52 ⟨(Nat.le_of_ble_eq_true rfl), (Nat.le_of_ble_eq_true rfl)⟩) hP hD hS hA [0, 1] [2] [1, 2, 0] rfl rfl rfl (by decide) rfl rfl (fun H locs hP hD hS => ?_)
        refine lv_aload_n hx hb dX6_swap_55 rfl (lv_at hl 2 rfl) ?_
        refine lv_iload_n hx hb dX6_swap_56 rfl (lv_at hl 4 rfl) ?_
        refine lv_iconst (v := (1 : Int32)) hx hb dX6_swap_57 (by decide) ?_
        refine lv_iload hx hb dX6_swap_58 (lv_at hl 0 rfl) ?_
        obtain ⟨v10, hv10, hF⟩ := oB hF
        refine call_v (wr := [(aR, .inr (4, [.int rR, .int rD]))]) (wn := [(aC, .inr (0, [.ref aCr])), (aCr, .inl (K 0, 55, .inl v10)), (aR, .inr (4, [.int rR, .int rD]))]) (va_runV (As := [.int p3, .int (1 : Int32), .int v7.1]) (rest := []) ⟨hx, hb, hml, hown, hts⟩ (c_X0_setOf l D K aC aCr v9 p3 (1 : Int32) v7.1 v10 hv10 H.size) (cwV 3 hts gX6_swap_X0_setOf rfl rfl rfl (by decide +kernel) ⟨(Nat.le_of_ble_eq_true rfl), (Nat.le_of_ble_eq_true rfl)⟩) (prV hE hK hP hD hS hA [0, 1] rfl rfl 0 0 rfl rfl rfl) rfl rfl hl.1 rfl (lv_room (Nat.le_of_ble_eq_true rfl)) dX6_swap_60 ⟨(Nat.le_of_ble_eq_true rfl), (Nat.le_of_ble_eq_true rfl)⟩) hP hD hS hA [0, 1] [2] [1, 2, 0] rfl rfl rfl (by decide) rfl rfl (fun H locs hP hD hS => ?_)
        refine lv_iload hx hb dX6_swap_63 (lv_at hl 0 rfl) ?_
        refine lv_aload_n hx hb dX6_swap_65 rfl (lv_at hl 2 rfl) ?_
        refine lv_iload_n hx hb dX6_swap_66 rfl (lv_at hl 3 rfl) ?_
        refine lv_iconst (v := (1 : Int32)) hx hb dX6_swap_67 (by decide) ?_
        obtain ⟨v11, hv11, hF⟩ := oB hF
        refine call_i (wr := [(aR, .inr (4, [.int rR, .int rD]))]) (wn := [(aC, .inr (0, [.ref aCr])), (aCr, .inl (K 0, 55, .inl v10)), (aR, .inr (4, [.int rR, .int rD]))]) (va_runV (As := [.int p2, .int (1 : Int32)]) (rest := [.int v7.1]) ⟨hx, hb, hml, hown, hts⟩ (c_X0_of l D K aC aCr v10 p2 (1 : Int32) v11 hv11 H.size) (cwV 2 hts gX6_swap_X0_of rfl rfl rfl (by decide +kernel) ⟨(Nat.le_of_ble_eq_true rfl), (Nat.le_of_ble_eq_true rfl)⟩) (prV hE hK hP hD hS hA [0, 1] rfl rfl 0 0 rfl rfl rfl) rfl rfl hl.1 rfl (lv_room (Nat.le_of_ble_eq_true rfl)) dX6_swap_68 ⟨(Nat.le_of_ble_eq_true rfl), (Nat.le_of_ble_eq_true rfl)⟩) hP hD hS hA [0, 1] [2] [1, 2, 0] rfl rfl rfl (by decide) rfl rfl (fun H locs hP hD hS => ?_)
        refine lv_isub hx hb dX6_swap_71 ?_
        refine va_mabs hx hb (hml.trans hl.1.symm) hown (hts (.methodLink RX6 90 Lib.Math.abs.name) (List.mem_of_getElem? (i := 1) rfl)) (hts (.static Lib.Math.abs.name) (List.mem_of_getElem? (i := 2) rfl)) (hts (.initialized "java/lang/Math") (List.mem_of_getElem? (i := 3) rfl)) (hts (.code Lib.Math.abs.name Lib.Math.abs.code 1 (some .int)) (List.mem_of_getElem? (i := 4) rfl)) (Nat.le_of_ble_eq_true rfl) (Nat.le_of_ble_eq_true rfl) (Nat.le_of_ble_eq_true rfl) (Nat.le_of_ble_eq_true rfl) dX6_swap_72 ?_
        refine W.eq (g2 := F0 m 75 ls [.int (jabs (v7.1 - v11.1))]) rfl ?_
        exact fin_i (u := (jabs (v7.1 - v11.1), (v10, rR, rD))) hF hx hb hr hlocks hK hP hD hS (Nat.le_of_ble_eq_true rfl) (Nat.le_of_ble_eq_true rfl) dX6_swap_75
      · have hF := oT c6 hF
        refine lv_aload_n hx hb dX6_swap_27 rfl (lv_at hl 0 rfl) ?_
        refine lv_bipush (v := (6 : Int32)) hx hb dX6_swap_28 (by decide) ?_
        refine lv_iload_n hx hb dX6_swap_30 rfl (lv_at hl 2 rfl) ?_
        obtain ⟨v12, hv12, hF⟩ := oB hF
        refine call_i (wr := [(aC, .inr (0, [.ref aCr])), (aCr, .inl (K 0, 55, .inl row))]) (wn := [(aC, .inr (0, [.ref aCr])), (aCr, .inl (K 0, 55, .inl row)), (aR, .inr (4, [.int v12.2.1, .int v12.2.2]))]) (va_runV (As := [.int (6 : Int32), .int p2]) (rest := []) ⟨hx, hb, hml, hown, hts⟩ (c_X6_refuse l D K aR rR rD (6 : Int32) p2 v12 hv12 H.size) (cwV 2 hts gX6_swap_X6_refuse rfl rfl rfl (by decide +kernel) ⟨(Nat.le_of_ble_eq_true rfl), (Nat.le_of_ble_eq_true rfl)⟩) (prV hE hK hP hD hS hA [2] rfl rfl 4 2 rfl rfl rfl) rfl rfl hl.1 rfl (lv_room (Nat.le_of_ble_eq_true rfl)) dX6_swap_31 ⟨(Nat.le_of_ble_eq_true rfl), (Nat.le_of_ble_eq_true rfl)⟩) hP hD hS hA [2] [0, 1] [0, 1, 2] rfl rfl rfl (by decide) rfl rfl (fun H locs hP hD hS => ?_)
        exact fin_i (u := (v12.1, (row, v12.2.1, v12.2.2))) hF hx hb hr hlocks hK hP hD hS (Nat.le_of_ble_eq_true rfl) (Nat.le_of_ble_eq_true rfl) dX6_swap_34
    · have hF := oT c5 hF
      refine lv_aload_n hx hb dX6_swap_16 rfl (lv_at hl 0 rfl) ?_
      refine lv_aload_n hx hb dX6_swap_17 rfl (lv_at hl 1 rfl) ?_
      obtain ⟨v13, hv13, hF⟩ := oB hF
      refine call_i (wr := []) (wn := [(aC, .inr (0, [.ref aCr])), (aCr, .inl (K 0, 55, .inl row)), (aR, .inr (4, [.int v13.2.1, .int v13.2.2]))]) (va_runV (As := [.ref aC]) (rest := []) ⟨hx, hb, hml, hown, hts⟩ (c_X6_refuseStranger l D K aC aCr aR row rR rD v13 hv13 H.size) (cwV 1 hts gX6_swap_X6_refuseStranger rfl rfl rfl (by decide +kernel) ⟨(Nat.le_of_ble_eq_true rfl), (Nat.le_of_ble_eq_true rfl)⟩) (prV hE hK hP hD hS hA [0, 1, 2] rfl rfl 4 2 rfl rfl rfl) rfl rfl hl.1 rfl (lv_room (Nat.le_of_ble_eq_true rfl)) dX6_swap_18 ⟨(Nat.le_of_ble_eq_true rfl), (Nat.le_of_ble_eq_true rfl)⟩) hP hD hS hA [0, 1, 2] [] [0, 1, 2] rfl rfl rfl (by decide) rfl rfl (fun H locs hP hD hS => ?_)
      exact fin_i (u := (v13.1, (row, v13.2.1, v13.2.2))) hF hx hb hr hlocks hK hP hD hS (Nat.le_of_ble_eq_true rfl) (Nat.le_of_ble_eq_true rfl) dX6_swap_21
abbrev RM_X6_bet : Room := { frames := 3, cells := 0, slots := 0, locals := 68 }
abbrev MC_X6_bet : Nat := 0
abbrev MS_X6_bet : Nat := 0
abbrev wf_X6_bet (K : Nat → ClassId) (aC : Nat) (aCr : Nat) (aR : Nat)  (v : Int32 × (Nat → Int32) × Int32 × Int32) : va_W := [(aC, .inr (0, [.ref aCr])), (aCr, .inl (K 0, 55, .inl v.2.1)), (aR, .inr (4, [.int v.2.2.1, .int v.2.2.2]))]
set_option maxHeartbeats 4000000 in
set_option maxRecDepth 100000 in
theorem c_X6_bet (l : Launch) (D : va_G) (K : Nat → ClassId) (aC : Nat) (aCr : Nat) (aR : Nat) (row : Nat → Int32) (rR : Int32) (rD : Int32) (p2 : Int32) (p3 : Int32) (p4 : Int32) (v : Int32 × (Nat → Int32) × Int32 × Int32) (hF : f_X6_bet row rR rD p2 p3 p4 = some v) (sz : Nat) :
    (Met l yX6_bet wsX6_bet RM_X6_bet (PC D (TY K) [(aC, .inr (0, [.ref aCr])), (aCr, .inl (K 0, 55, .inl row)), (aR, .inr (4, [.int rR, .int rD]))] [.ref aR, .ref aC, .int p2, .int p3, .int p4] sz) (QI D (TY K) (wf_X6_bet K aC aCr aR) v (va_A [(aC, .inr (0, [.ref aCr])), (aCr, .inl (K 0, 55, .inl row)), (aR, .inr (4, [.int rR, .int rD]))] sz)) MC_X6_bet MS_X6_bet (va_A [(aC, .inr (0, [.ref aCr])), (aCr, .inl (K 0, 55, .inl row)), (aR, .inr (4, [.int rR, .int rD]))] sz)) := by
  refine pro (Qf := fun A => QI D (TY K) (wf_X6_bet K aC aCr aR) v A) (cc := cX6_bet) (maxL := 5) (ret := (some .int)) (by decide +kernel) rfl (Nat.le_of_ble_eq_true rfl) ?_
  intro p e s m args below meth c hx hb hr hts hown hlocks hml hini hK A hA hE hP hD hS ls hl
  have hown : s.vm.findClass RX6 = some m.cls := hown
  have hl : lv_has ls 5 [(0, .ref aR), (1, .ref aC), (2, .int p2), (3, .int p3), (4, .int p4)] := hl
  rw [f_X6_bet] at hF
  refine lv_aload_n hx hb dX6_bet_0 rfl (lv_at hl 1 rfl) ?_
  refine lv_iload_n hx hb dX6_bet_1 rfl (lv_at hl 2 rfl) ?_
  obtain ⟨v1, hv1, hF⟩ := oB hF
  refine call_i (wr := [(aR, .inr (4, [.int rR, .int rD]))]) (wn := [(aC, .inr (0, [.ref aCr])), (aCr, .inl (K 0, 55, .inl row)), (aR, .inr (4, [.int rR, .int rD]))]) (va_runV (As := [.int p2]) (rest := []) ⟨hx, hb, hml, hown, hts⟩ (c_X0_isMember l D K aC aCr row p2 v1 hv1 s.heap.size) (cwV 1 hts gX6_bet_X0_isMember rfl rfl rfl (by decide +kernel) ⟨(Nat.le_of_ble_eq_true rfl), (Nat.le_of_ble_eq_true rfl)⟩) (prV hE hK hP hD hS hA [0, 1] rfl rfl 0 0 rfl rfl rfl) rfl rfl hl.1 rfl (lv_room (Nat.le_of_ble_eq_true rfl)) dX6_bet_2 ⟨(Nat.le_of_ble_eq_true rfl), (Nat.le_of_ble_eq_true rfl)⟩) hP hD hS hA [0, 1] [2] [1, 2, 0] rfl rfl rfl (by decide) rfl rfl (fun H locs hP hD hS => ?_)
  refine lv_if_ne (tgt := 14) hx hb dX6_bet_5 (by decide) (fun c2 => ?_) (fun c2 => ?_)
  · have hF := oF c2 hF
    refine lv_iload_n hx hb dX6_bet_14 rfl (lv_at hl 3 rfl) ?_
    refine lv_sipush (v := (700 : Int32)) hx hb dX6_bet_15 (by decide) ?_
    refine lv_icmp_lt (tgt := 41) hx hb dX6_bet_18 (by decide) (fun c3 => ?_) (fun c3 => ?_)
    · have hF := oT c3 hF
      refine lv_aload_n hx hb dX6_bet_41 rfl (lv_at hl 0 rfl) ?_
      refine lv_iconst (v := (1 : Int32)) hx hb dX6_bet_42 (by decide) ?_
      refine lv_iconst (v := (0 : Int32)) hx hb dX6_bet_43 (by decide) ?_
      obtain ⟨v4, hv4, hF⟩ := oB hF
      refine call_i (wr := [(aC, .inr (0, [.ref aCr])), (aCr, .inl (K 0, 55, .inl row))]) (wn := [(aC, .inr (0, [.ref aCr])), (aCr, .inl (K 0, 55, .inl row)), (aR, .inr (4, [.int v4.2.1, .int v4.2.2]))]) (va_runV (As := [.int (1 : Int32), .int (0 : Int32)]) (rest := []) ⟨hx, hb, hml, hown, hts⟩ (c_X6_refuse l D K aR rR rD (1 : Int32) (0 : Int32) v4 hv4 H.size) (cwV 2 hts gX6_bet_X6_refuse rfl rfl rfl (by decide +kernel) ⟨(Nat.le_of_ble_eq_true rfl), (Nat.le_of_ble_eq_true rfl)⟩) (prV hE hK hP hD hS hA [2] rfl rfl 4 2 rfl rfl rfl) rfl rfl hl.1 rfl (lv_room (Nat.le_of_ble_eq_true rfl)) dX6_bet_44 ⟨(Nat.le_of_ble_eq_true rfl), (Nat.le_of_ble_eq_true rfl)⟩) hP hD hS hA [2] [0, 1] [0, 1, 2] rfl rfl rfl (by decide) rfl rfl (fun H locs hP hD hS => ?_)
      exact fin_i (u := (v4.1, (row, v4.2.1, v4.2.2))) hF hx hb hr hlocks hK hP hD hS (Nat.le_of_ble_eq_true rfl) (Nat.le_of_ble_eq_true rfl) dX6_bet_47
    · have hF := oF c3 hF
      refine lv_iload_n hx hb dX6_bet_21 rfl (lv_at hl 3 rfl) ?_
      refine lv_sipush (v := (1100 : Int32)) hx hb dX6_bet_22 (by decide) ?_
      refine lv_icmp_gt (tgt := 41) hx hb dX6_bet_25 (by decide) (fun c5 => ?_) (fun c5 => ?_)
      · have hF := oT c5 hF
        refine lv_aload_n hx hb dX6_bet_41 rfl (lv_at hl 0 rfl) ?_
        refine lv_iconst (v := (1 : Int32)) hx hb dX6_bet_42 (by decide) ?_
        refine lv_iconst (v := (0 : Int32)) hx hb dX6_bet_43 (by decide) ?_
        obtain ⟨v6, hv6, hF⟩ := oB hF
        refine call_i (wr := [(aC, .inr (0, [.ref aCr])), (aCr, .inl (K 0, 55, .inl row))]) (wn := [(aC, .inr (0, [.ref aCr])), (aCr, .inl (K 0, 55, .inl row)), (aR, .inr (4, [.int v6.2.1, .int v6.2.2]))]) (va_runV (As := [.int (1 : Int32), .int (0 : Int32)]) (rest := []) ⟨hx, hb, hml, hown, hts⟩ (c_X6_refuse l D K aR rR rD (1 : Int32) (0 : Int32) v6 hv6 H.size) (cwV 2 hts gX6_bet_X6_refuse rfl rfl rfl (by decide +kernel) ⟨(Nat.le_of_ble_eq_true rfl), (Nat.le_of_ble_eq_true rfl)⟩) (prV hE hK hP hD hS hA [2] rfl rfl 4 2 rfl rfl rfl) rfl rfl hl.1 rfl (lv_room (Nat.le_of_ble_eq_true rfl)) dX6_bet_44 ⟨(Nat.le_of_ble_eq_true rfl), (Nat.le_of_ble_eq_true rfl)⟩) hP hD hS hA [2] [0, 1] [0, 1, 2] rfl rfl rfl (by decide) rfl rfl (fun H locs hP hD hS => ?_)
        exact fin_i (u := (v6.1, (row, v6.2.1, v6.2.2))) hF hx hb hr hlocks hK hP hD hS (Nat.le_of_ble_eq_true rfl) (Nat.le_of_ble_eq_true rfl) dX6_bet_47
      · have hF := oF c5 hF
        refine lv_iload hx hb dX6_bet_28 (lv_at hl 4 rfl) ?_
        refine lv_iconst (v := (1 : Int32)) hx hb dX6_bet_30 (by decide) ?_
        refine lv_icmp_lt (tgt := 41) hx hb dX6_bet_31 (by decide) (fun c7 => ?_) (fun c7 => ?_)
        · have hF := oT c7 hF
          refine lv_aload_n hx hb dX6_bet_41 rfl (lv_at hl 0 rfl) ?_
          refine lv_iconst (v := (1 : Int32)) hx hb dX6_bet_42 (by decide) ?_
          refine lv_iconst (v := (0 : Int32)) hx hb dX6_bet_43 (by decide) ?_
          obtain ⟨v8, hv8, hF⟩ := oB hF
          refine call_i (wr := [(aC, .inr (0, [.ref aCr])), (aCr, .inl (K 0, 55, .inl row))]) (wn := [(aC, .inr (0, [.ref aCr])), (aCr, .inl (K 0, 55, .inl row)), (aR, .inr (4, [.int v8.2.1, .int v8.2.2]))]) (va_runV (As := [.int (1 : Int32), .int (0 : Int32)]) (rest := []) ⟨hx, hb, hml, hown, hts⟩ (c_X6_refuse l D K aR rR rD (1 : Int32) (0 : Int32) v8 hv8 H.size) (cwV 2 hts gX6_bet_X6_refuse rfl rfl rfl (by decide +kernel) ⟨(Nat.le_of_ble_eq_true rfl), (Nat.le_of_ble_eq_true rfl)⟩) (prV hE hK hP hD hS hA [2] rfl rfl 4 2 rfl rfl rfl) rfl rfl hl.1 rfl (lv_room (Nat.le_of_ble_eq_true rfl)) dX6_bet_44 ⟨(Nat.le_of_ble_eq_true rfl), (Nat.le_of_ble_eq_true rfl)⟩) hP hD hS hA [2] [0, 1] [0, 1, 2] rfl rfl rfl (by decide) rfl rfl (fun H locs hP hD hS => ?_)
          exact fin_i (u := (v8.1, (row, v8.2.1, v8.2.2))) hF hx hb hr hlocks hK hP hD hS (Nat.le_of_ble_eq_true rfl) (Nat.le_of_ble_eq_true rfl) dX6_bet_47
        · have hF := oF c7 hF
          refine lv_iload hx hb dX6_bet_34 (lv_at hl 4 rfl) ?_
          refine lv_bipush (v := (9 : Int32)) hx hb dX6_bet_36 (by decide) ?_
          refine lv_icmp_le (tgt := 48) hx hb dX6_bet_38 (by decide) (fun c9 => ?_) (fun c9 => ?_)
          · have hF := oT c9 hF
            refine lv_aload_n hx hb dX6_bet_48 rfl (lv_at hl 1 rfl) ?_
            refine lv_iload_n hx hb dX6_bet_49 rfl (lv_at hl 2 rfl) ?_
            obtain ⟨v10, hv10, hF⟩ := oB hF
            refine call_i (wr := [(aR, .inr (4, [.int rR, .int rD]))]) (wn := [(aC, .inr (0, [.ref aCr])), (aCr, .inl (K 0, 55, .inl row)), (aR, .inr (4, [.int rR, .int rD]))]) (va_runV (As := [.int p2]) (rest := []) ⟨hx, hb, hml, hown, hts⟩ (c_X0_hasWagered l D K aC aCr row p2 v10 hv10 H.size) (cwV 1 hts gX6_bet_X0_hasWagered rfl rfl rfl (by decide +kernel) ⟨(Nat.le_of_ble_eq_true rfl), (Nat.le_of_ble_eq_true rfl)⟩) (prV hE hK hP hD hS hA [0, 1] rfl rfl 0 0 rfl rfl rfl) rfl rfl hl.1 rfl (lv_room (Nat.le_of_ble_eq_true rfl)) dX6_bet_50 ⟨(Nat.le_of_ble_eq_true rfl), (Nat.le_of_ble_eq_true rfl)⟩) hP hD hS hA [0, 1] [2] [1, 2, 0] rfl rfl rfl (by decide) rfl rfl (fun H locs hP hD hS => ?_)
            refine lv_if_eq (tgt := 69) hx hb dX6_bet_53 (by decide) (fun c11 => ?_) (fun c11 => ?_)
            · have hF := oT c11 hF
              refine lv_iload hx hb dX6_bet_69 (lv_at hl 4 rfl) ?_
              refine lv_aload_n hx hb dX6_bet_71 rfl (lv_at hl 1 rfl) ?_
              refine lv_iload_n hx hb dX6_bet_72 rfl (lv_at hl 2 rfl) ?_
              refine lv_iconst (v := (0 : Int32)) hx hb dX6_bet_73 (by decide) ?_
              obtain ⟨v12, hv12, hF⟩ := oB hF
              refine call_i (wr := [(aR, .inr (4, [.int rR, .int rD]))]) (wn := [(aC, .inr (0, [.ref aCr])), (aCr, .inl (K 0, 55, .inl row)), (aR, .inr (4, [.int rR, .int rD]))]) (va_runV (As := [.int p2, .int (0 : Int32)]) (rest := [.int p4]) ⟨hx, hb, hml, hown, hts⟩ (c_X0_of l D K aC aCr row p2 (0 : Int32) v12 hv12 H.size) (cwV 2 hts gX6_bet_X0_of rfl rfl rfl (by decide +kernel) ⟨(Nat.le_of_ble_eq_true rfl), (Nat.le_of_ble_eq_true rfl)⟩) (prV hE hK hP hD hS hA [0, 1] rfl rfl 0 0 rfl rfl rfl) rfl rfl hl.1 rfl (lv_room (Nat.le_of_ble_eq_true rfl)) dX6_bet_74 ⟨(Nat.le_of_ble_eq_true rfl), (Nat.le_of_ble_eq_true rfl)⟩) hP hD hS hA [0, 1] [2] [1, 2, 0] rfl rfl rfl (by decide) rfl rfl (fun H locs hP hD hS => ?_)
              refine lv_icmp_le (tgt := 95) hx hb dX6_bet_77 (by decide) (fun c13 => ?_) (fun c13 => ?_)
              · have hF := oT c13 hF
                refine lv_aload_n hx hb dX6_bet_95 rfl (lv_at hl 1 rfl) ?_
                refine lv_iload_n hx hb dX6_bet_96 rfl (lv_at hl 2 rfl) ?_
                refine lv_iload hx hb dX6_bet_97 (lv_at hl 4 rfl) ?_
                obtain ⟨v14, hv14, hF⟩ := oB hF
                refine call_v (wr := [(aR, .inr (4, [.int rR, .int rD]))]) (wn := [(aC, .inr (0, [.ref aCr])), (aCr, .inl (K 0, 55, .inl v14)), (aR, .inr (4, [.int rR, .int rD]))]) (va_runV (As := [.int p2, .int p4]) (rest := []) ⟨hx, hb, hml, hown, hts⟩ (c_X0_payIntoPot l D K aC aCr row p2 p4 v14 hv14 H.size) (cwV 2 hts gX6_bet_X0_payIntoPot rfl rfl rfl (by decide +kernel) ⟨(Nat.le_of_ble_eq_true rfl), (Nat.le_of_ble_eq_true rfl)⟩) (prV hE hK hP hD hS hA [0, 1] rfl rfl 0 0 rfl rfl rfl) rfl rfl hl.1 rfl (lv_room (Nat.le_of_ble_eq_true rfl)) dX6_bet_99 ⟨(Nat.le_of_ble_eq_true rfl), (Nat.le_of_ble_eq_true rfl)⟩) hP hD hS hA [0, 1] [2] [1, 2, 0] rfl rfl rfl (by decide) rfl rfl (fun H locs hP hD hS => ?_)
                refine lv_aload_n hx hb dX6_bet_102 rfl (lv_at hl 1 rfl) ?_
                refine lv_iload_n hx hb dX6_bet_103 rfl (lv_at hl 2 rfl) ?_
                refine lv_iconst (v := (2 : Int32)) hx hb dX6_bet_104 (by decide) ?_
                refine lv_iload_n hx hb dX6_bet_105 rfl (lv_at hl 3 rfl) ?_
                obtain ⟨v15, hv15, hF⟩ := oB hF
                refine call_v (wr := [(aR, .inr (4, [.int rR, .int rD]))]) (wn := [(aC, .inr (0, [.ref aCr])), (aCr, .inl (K 0, 55, .inl v15)), (aR, .inr (4, [.int rR, .int rD]))]) (va_runV (As := [.int p2, .int (2 : Int32), .int p3]) (rest := []) ⟨hx, hb, hml, hown, hts⟩ (c_X0_setOf l D K aC aCr v14 p2 (2 : Int32) p3 v15 hv15 H.size) (cwV 3 hts gX6_bet_X0_setOf rfl rfl rfl (by decide +kernel) ⟨(Nat.le_of_ble_eq_true rfl), (Nat.le_of_ble_eq_true rfl)⟩) (prV hE hK hP hD hS hA [0, 1] rfl rfl 0 0 rfl rfl rfl) rfl rfl hl.1 rfl (lv_room (Nat.le_of_ble_eq_true rfl)) dX6_bet_106 ⟨(Nat.le_of_ble_eq_true rfl), (Nat.le_of_ble_eq_true rfl)⟩) hP hD hS hA [0, 1] [2] [1, 2, 0] rfl rfl rfl (by decide) rfl rfl (fun H locs hP hD hS => ?_)
                refine lv_aload_n hx hb dX6_bet_109 rfl (lv_at hl 1 rfl) ?_
                refine lv_iload_n hx hb dX6_bet_110 rfl (lv_at hl 2 rfl) ?_
                refine lv_iconst (v := (3 : Int32)) hx hb dX6_bet_111 (by decide) ?_
                refine lv_iload hx hb dX6_bet_112 (lv_at hl 4 rfl) ?_
                obtain ⟨v16, hv16, hF⟩ := oB hF
                refine call_v (wr := [(aR, .inr (4, [.int rR, .int rD]))]) (wn := [(aC, .inr (0, [.ref aCr])), (aCr, .inl (K 0, 55, .inl v16)), (aR, .inr (4, [.int rR, .int rD]))]) (va_runV (As := [.int p2, .int (3 : Int32), .int p4]) (rest := []) ⟨hx, hb, hml, hown, hts⟩ (c_X0_setOf l D K aC aCr v15 p2 (3 : Int32) p4 v16 hv16 H.size) (cwV 3 hts gX6_bet_X0_setOf rfl rfl rfl (by decide +kernel) ⟨(Nat.le_of_ble_eq_true rfl), (Nat.le_of_ble_eq_true rfl)⟩) (prV hE hK hP hD hS hA [0, 1] rfl rfl 0 0 rfl rfl rfl) rfl rfl hl.1 rfl (lv_room (Nat.le_of_ble_eq_true rfl)) dX6_bet_114 ⟨(Nat.le_of_ble_eq_true rfl), (Nat.le_of_ble_eq_true rfl)⟩) hP hD hS hA [0, 1] [2] [1, 2, 0] rfl rfl rfl (by decide) rfl rfl (fun H locs hP hD hS => ?_)
                refine lv_aload_n hx hb dX6_bet_117 rfl (lv_at hl 1 rfl) ?_
                refine lv_bipush (v := (7 : Int32)) hx hb dX6_bet_118 (by decide) ?_
                obtain ⟨v17, hv17, hF⟩ := oB hF
                refine call_i (wr := [(aR, .inr (4, [.int rR, .int rD]))]) (wn := [(aC, .inr (0, [.ref aCr])), (aCr, .inl (K 0, 55, .inl v16)), (aR, .inr (4, [.int rR, .int rD]))]) (va_runV (As := [.int (7 : Int32)]) (rest := []) ⟨hx, hb, hml, hown, hts⟩ (c_X0_get l D K aC aCr v16 (7 : Int32) v17 hv17 H.size) (cwV 1 hts gX6_bet_X0_get rfl rfl rfl (by decide +kernel) ⟨(Nat.le_of_ble_eq_true rfl), (Nat.le_of_ble_eq_true rfl)⟩) (prV hE hK hP hD hS hA [0, 1] rfl rfl 0 0 rfl rfl rfl) rfl rfl hl.1 rfl (lv_room (Nat.le_of_ble_eq_true rfl)) dX6_bet_120 ⟨(Nat.le_of_ble_eq_true rfl), (Nat.le_of_ble_eq_true rfl)⟩) hP hD hS hA [0, 1] [2] [1, 2, 0] rfl rfl rfl (by decide) rfl rfl (fun H locs hP hD hS => ?_)
                exact fin_i (u := (v17.1, (v16, rR, rD))) hF hx hb hr hlocks hK hP hD hS (Nat.le_of_ble_eq_true rfl) (Nat.le_of_ble_eq_true rfl) dX6_bet_123
              · have hF := oF c13 hF
                refine lv_aload_n hx hb dX6_bet_80 rfl (lv_at hl 0 rfl) ?_
                refine lv_iconst (v := (5 : Int32)) hx hb dX6_bet_81 (by decide) ?_
                refine lv_iload hx hb dX6_bet_82 (lv_at hl 4 rfl) ?_
                refine lv_aload_n hx hb dX6_bet_84 rfl (lv_at hl 1 rfl) ?_
                refine lv_iload_n hx hb dX6_bet_85 rfl (lv_at hl 2 rfl) ?_
                refine lv_iconst (v := (0 : Int32)) hx hb dX6_bet_86 (by decide) ?_
                obtain ⟨v18, hv18, hF⟩ := oB hF
                refine call_i (wr := [(aR, .inr (4, [.int rR, .int rD]))]) (wn := [(aC, .inr (0, [.ref aCr])), (aCr, .inl (K 0, 55, .inl row)), (aR, .inr (4, [.int rR, .int rD]))]) (va_runV (As := [.int p2, .int (0 : Int32)]) (rest := [.int p4, .int (5 : Int32), .ref aR]) ⟨hx, hb, hml, hown, hts⟩ (c_X0_of l D K aC aCr row p2 (0 : Int32) v18 hv18 H.size) (cwV 2 hts gX6_bet_X0_of rfl rfl rfl (by decide +kernel) ⟨(Nat.le_of_ble_eq_true rfl), (Nat.le_of_ble_eq_true rfl)⟩) (prV hE hK hP hD hS hA [0, 1] rfl rfl 0 0 rfl rfl rfl) rfl rfl hl.1 rfl (lv_room (Nat.le_of_ble_eq_true rfl)) dX6_bet_87 ⟨(Nat.le_of_ble_eq_true rfl), (Nat.le_of_ble_eq_true rfl)⟩) hP hD hS hA [0, 1] [2] [1, 2, 0] rfl rfl rfl (by decide) rfl rfl (fun H locs hP hD hS => ?_)
                refine lv_isub hx hb dX6_bet_90 ?_
                obtain ⟨v19, hv19, hF⟩ := oB hF
                refine call_i (wr := [(aC, .inr (0, [.ref aCr])), (aCr, .inl (K 0, 55, .inl row))]) (wn := [(aC, .inr (0, [.ref aCr])), (aCr, .inl (K 0, 55, .inl row)), (aR, .inr (4, [.int v19.2.1, .int v19.2.2]))]) (va_runV (As := [.int (5 : Int32), .int (p4 - v18.1)]) (rest := []) ⟨hx, hb, hml, hown, hts⟩ (c_X6_refuse l D K aR rR rD (5 : Int32) (p4 - v18.1) v19 hv19 H.size) (cwV 2 hts gX6_bet_X6_refuse rfl rfl rfl (by decide +kernel) ⟨(Nat.le_of_ble_eq_true rfl), (Nat.le_of_ble_eq_true rfl)⟩) (prV hE hK hP hD hS hA [2] rfl rfl 4 2 rfl rfl rfl) rfl rfl hl.1 rfl (lv_room (Nat.le_of_ble_eq_true rfl)) dX6_bet_91 ⟨(Nat.le_of_ble_eq_true rfl), (Nat.le_of_ble_eq_true rfl)⟩) hP hD hS hA [2] [0, 1] [0, 1, 2] rfl rfl rfl (by decide) rfl rfl (fun H locs hP hD hS => ?_)
                exact fin_i (u := (v19.1, (row, v19.2.1, v19.2.2))) hF hx hb hr hlocks hK hP hD hS (Nat.le_of_ble_eq_true rfl) (Nat.le_of_ble_eq_true rfl) dX6_bet_94
            · have hF := oF c11 hF
              refine lv_aload_n hx hb dX6_bet_56 rfl (lv_at hl 0 rfl) ?_
              refine lv_bipush (v := (7 : Int32)) hx hb dX6_bet_57 (by decide) ?_
              refine lv_aload_n hx hb dX6_bet_59 rfl (lv_at hl 1 rfl) ?_
              refine lv_iload_n hx hb dX6_bet_60 rfl (lv_at hl 2 rfl) ?_
              refine lv_iconst (v := (2 : Int32)) hx hb dX6_bet_61 (by decide) ?_
              obtain ⟨v20, hv20, hF⟩ := oB hF
              refine call_i (wr := [(aR, .inr (4, [.int rR, .int rD]))]) (wn := [(aC, .inr (0, [.ref aCr])), (aCr, .inl (K 0, 55, .inl row)), (aR, .inr (4, [.int rR, .int rD]))]) (va_runV (As := [.int p2, .int (2 : Int32)]) (rest := [.int (7 : Int32), .ref aR]) ⟨hx, hb, hml, hown, hts⟩ (c_X0_of l D K aC aCr row p2 (2 : Int32) v20 hv20 H.size) (cwV 2 hts gX6_bet_X0_of rfl rfl rfl (by decide +kernel) ⟨(Nat.le_of_ble_eq_true rfl), (Nat.le_of_ble_eq_true rfl)⟩) (prV hE hK hP hD hS hA [0, 1] rfl rfl 0 0 rfl rfl rfl) rfl rfl hl.1 rfl (lv_room (Nat.le_of_ble_eq_true rfl)) dX6_bet_62 ⟨(Nat.le_of_ble_eq_true rfl), (Nat.le_of_ble_eq_true rfl)⟩) hP hD hS hA [0, 1] [2] [1, 2, 0] rfl rfl rfl (by decide) rfl rfl (fun H locs hP hD hS => ?_)
              obtain ⟨v21, hv21, hF⟩ := oB hF
              refine call_i (wr := [(aC, .inr (0, [.ref aCr])), (aCr, .inl (K 0, 55, .inl row))]) (wn := [(aC, .inr (0, [.ref aCr])), (aCr, .inl (K 0, 55, .inl row)), (aR, .inr (4, [.int v21.2.1, .int v21.2.2]))]) (va_runV (As := [.int (7 : Int32), .int v20.1]) (rest := []) ⟨hx, hb, hml, hown, hts⟩ (c_X6_refuse l D K aR rR rD (7 : Int32) v20.1 v21 hv21 H.size) (cwV 2 hts gX6_bet_X6_refuse rfl rfl rfl (by decide +kernel) ⟨(Nat.le_of_ble_eq_true rfl), (Nat.le_of_ble_eq_true rfl)⟩) (prV hE hK hP hD hS hA [2] rfl rfl 4 2 rfl rfl rfl) rfl rfl hl.1 rfl (lv_room (Nat.le_of_ble_eq_true rfl)) dX6_bet_65 ⟨(Nat.le_of_ble_eq_true rfl), (Nat.le_of_ble_eq_true rfl)⟩) hP hD hS hA [2] [0, 1] [0, 1, 2] rfl rfl rfl (by decide) rfl rfl (fun H locs hP hD hS => ?_)
              exact fin_i (u := (v21.1, (row, v21.2.1, v21.2.2))) hF hx hb hr hlocks hK hP hD hS (Nat.le_of_ble_eq_true rfl) (Nat.le_of_ble_eq_true rfl) dX6_bet_68
          · have hF := oF c9 hF
            refine lv_aload_n hx hb dX6_bet_41 rfl (lv_at hl 0 rfl) ?_
            refine lv_iconst (v := (1 : Int32)) hx hb dX6_bet_42 (by decide) ?_
            refine lv_iconst (v := (0 : Int32)) hx hb dX6_bet_43 (by decide) ?_
            obtain ⟨v22, hv22, hF⟩ := oB hF
            refine call_i (wr := [(aC, .inr (0, [.ref aCr])), (aCr, .inl (K 0, 55, .inl row))]) (wn := [(aC, .inr (0, [.ref aCr])), (aCr, .inl (K 0, 55, .inl row)), (aR, .inr (4, [.int v22.2.1, .int v22.2.2]))]) (va_runV (As := [.int (1 : Int32), .int (0 : Int32)]) (rest := []) ⟨hx, hb, hml, hown, hts⟩ (c_X6_refuse l D K aR rR rD (1 : Int32) (0 : Int32) v22 hv22 H.size) (cwV 2 hts gX6_bet_X6_refuse rfl rfl rfl (by decide +kernel) ⟨(Nat.le_of_ble_eq_true rfl), (Nat.le_of_ble_eq_true rfl)⟩) (prV hE hK hP hD hS hA [2] rfl rfl 4 2 rfl rfl rfl) rfl rfl hl.1 rfl (lv_room (Nat.le_of_ble_eq_true rfl)) dX6_bet_44 ⟨(Nat.le_of_ble_eq_true rfl), (Nat.le_of_ble_eq_true rfl)⟩) hP hD hS hA [2] [0, 1] [0, 1, 2] rfl rfl rfl (by decide) rfl rfl (fun H locs hP hD hS => ?_)
            exact fin_i (u := (v22.1, (row, v22.2.1, v22.2.2))) hF hx hb hr hlocks hK hP hD hS (Nat.le_of_ble_eq_true rfl) (Nat.le_of_ble_eq_true rfl) dX6_bet_47
  · have hF := oT c2 hF
    refine lv_aload_n hx hb dX6_bet_8 rfl (lv_at hl 0 rfl) ?_
    refine lv_aload_n hx hb dX6_bet_9 rfl (lv_at hl 1 rfl) ?_
    obtain ⟨v23, hv23, hF⟩ := oB hF
    refine call_i (wr := []) (wn := [(aC, .inr (0, [.ref aCr])), (aCr, .inl (K 0, 55, .inl row)), (aR, .inr (4, [.int v23.2.1, .int v23.2.2]))]) (va_runV (As := [.ref aC]) (rest := []) ⟨hx, hb, hml, hown, hts⟩ (c_X6_refuseStranger l D K aC aCr aR row rR rD v23 hv23 H.size) (cwV 1 hts gX6_bet_X6_refuseStranger rfl rfl rfl (by decide +kernel) ⟨(Nat.le_of_ble_eq_true rfl), (Nat.le_of_ble_eq_true rfl)⟩) (prV hE hK hP hD hS hA [0, 1, 2] rfl rfl 4 2 rfl rfl rfl) rfl rfl hl.1 rfl (lv_room (Nat.le_of_ble_eq_true rfl)) dX6_bet_10 ⟨(Nat.le_of_ble_eq_true rfl), (Nat.le_of_ble_eq_true rfl)⟩) hP hD hS hA [0, 1, 2] [] [0, 1, 2] rfl rfl rfl (by decide) rfl rfl (fun H locs hP hD hS => ?_)
    exact fin_i (u := (v23.1, (row, v23.2.1, v23.2.2))) hF hx hb hr hlocks hK hP hD hS (Nat.le_of_ble_eq_true rfl) (Nat.le_of_ble_eq_true rfl) dX6_bet_13
abbrev RM_X6_knock : Room := { frames := 3, cells := 0, slots := 0, locals := 68 }
abbrev MC_X6_knock : Nat := 0
abbrev MS_X6_knock : Nat := 0
abbrev wf_X6_knock (K : Nat → ClassId) (aC : Nat) (aCr : Nat) (aR : Nat)  (v : Int32 × (Nat → Int32) × Int32 × Int32) : va_W := [(aC, .inr (0, [.ref aCr])), (aCr, .inl (K 0, 55, .inl v.2.1)), (aR, .inr (4, [.int v.2.2.1, .int v.2.2.2]))]
set_option maxHeartbeats 4000000 in
set_option maxRecDepth 100000 in
theorem c_X6_knock (l : Launch) (D : va_G) (K : Nat → ClassId) (aC : Nat) (aCr : Nat) (aR : Nat) (row : Nat → Int32) (rR : Int32) (rD : Int32) (p2 : Int32) (v : Int32 × (Nat → Int32) × Int32 × Int32) (hF : f_X6_knock row rR rD p2 = some v) (sz : Nat) :
    (Met l yX6_knock wsX6_knock RM_X6_knock (PC D (TY K) [(aC, .inr (0, [.ref aCr])), (aCr, .inl (K 0, 55, .inl row)), (aR, .inr (4, [.int rR, .int rD]))] [.ref aR, .ref aC, .int p2] sz) (QI D (TY K) (wf_X6_knock K aC aCr aR) v (va_A [(aC, .inr (0, [.ref aCr])), (aCr, .inl (K 0, 55, .inl row)), (aR, .inr (4, [.int rR, .int rD]))] sz)) MC_X6_knock MS_X6_knock (va_A [(aC, .inr (0, [.ref aCr])), (aCr, .inl (K 0, 55, .inl row)), (aR, .inr (4, [.int rR, .int rD]))] sz)) := by
  refine pro (Qf := fun A => QI D (TY K) (wf_X6_knock K aC aCr aR) v A) (cc := cX6_knock) (maxL := 3) (ret := (some .int)) (by decide +kernel) rfl (Nat.le_of_ble_eq_true rfl) ?_
  intro p e s m args below meth c hx hb hr hts hown hlocks hml hini hK A hA hE hP hD hS ls hl
  have hown : s.vm.findClass RX6 = some m.cls := hown
  have hl : lv_has ls 3 [(0, .ref aR), (1, .ref aC), (2, .int p2)] := hl
  rw [f_X6_knock] at hF
  refine lv_aload_n hx hb dX6_knock_0 rfl (lv_at hl 1 rfl) ?_
  refine lv_iload_n hx hb dX6_knock_1 rfl (lv_at hl 2 rfl) ?_
  obtain ⟨v1, hv1, hF⟩ := oB hF
  refine call_i (wr := [(aR, .inr (4, [.int rR, .int rD]))]) (wn := [(aC, .inr (0, [.ref aCr])), (aCr, .inl (K 0, 55, .inl row)), (aR, .inr (4, [.int rR, .int rD]))]) (va_runV (As := [.int p2]) (rest := []) ⟨hx, hb, hml, hown, hts⟩ (c_X0_isMember l D K aC aCr row p2 v1 hv1 s.heap.size) (cwV 1 hts gX6_knock_X0_isMember rfl rfl rfl (by decide +kernel) ⟨(Nat.le_of_ble_eq_true rfl), (Nat.le_of_ble_eq_true rfl)⟩) (prV hE hK hP hD hS hA [0, 1] rfl rfl 0 0 rfl rfl rfl) rfl rfl hl.1 rfl (lv_room (Nat.le_of_ble_eq_true rfl)) dX6_knock_2 ⟨(Nat.le_of_ble_eq_true rfl), (Nat.le_of_ble_eq_true rfl)⟩) hP hD hS hA [0, 1] [2] [1, 2, 0] rfl rfl rfl (by decide) rfl rfl (fun H locs hP hD hS => ?_)
  refine lv_if_ne (tgt := 14) hx hb dX6_knock_5 (by decide) (fun c2 => ?_) (fun c2 => ?_)
  · have hF := oF c2 hF
    refine lv_aload_n hx hb dX6_knock_14 rfl (lv_at hl 1 rfl) ?_
    refine lv_iload_n hx hb dX6_knock_15 rfl (lv_at hl 2 rfl) ?_
    obtain ⟨v3, hv3, hF⟩ := oB hF
    refine call_i (wr := [(aR, .inr (4, [.int rR, .int rD]))]) (wn := [(aC, .inr (0, [.ref aCr])), (aCr, .inl (K 0, 55, .inl row)), (aR, .inr (4, [.int rR, .int rD]))]) (va_runV (As := [.int p2]) (rest := []) ⟨hx, hb, hml, hown, hts⟩ (c_X0_hasWagered l D K aC aCr row p2 v3 hv3 H.size) (cwV 1 hts gX6_knock_X0_hasWagered rfl rfl rfl (by decide +kernel) ⟨(Nat.le_of_ble_eq_true rfl), (Nat.le_of_ble_eq_true rfl)⟩) (prV hE hK hP hD hS hA [0, 1] rfl rfl 0 0 rfl rfl rfl) rfl rfl hl.1 rfl (lv_room (Nat.le_of_ble_eq_true rfl)) dX6_knock_16 ⟨(Nat.le_of_ble_eq_true rfl), (Nat.le_of_ble_eq_true rfl)⟩) hP hD hS hA [0, 1] [2] [1, 2, 0] rfl rfl rfl (by decide) rfl rfl (fun H locs hP hD hS => ?_)
    refine lv_if_ne (tgt := 30) hx hb dX6_knock_19 (by decide) (fun c4 => ?_) (fun c4 => ?_)
    · have hF := oF c4 hF
      refine lv_aload_n hx hb dX6_knock_30 rfl (lv_at hl 1 rfl) ?_
      refine lv_iload_n hx hb dX6_knock_31 rfl (lv_at hl 2 rfl) ?_
      obtain ⟨v5, hv5, hF⟩ := oB hF
      refine call_i (wr := [(aR, .inr (4, [.int rR, .int rD]))]) (wn := [(aC, .inr (0, [.ref aCr])), (aCr, .inl (K 0, 55, .inl row)), (aR, .inr (4, [.int rR, .int rD]))]) (va_runV (As := [.int p2]) (rest := []) ⟨hx, hb, hml, hown, hts⟩ (c_X0_hasTapped l D K aC aCr row p2 v5 hv5 H.size) (cwV 1 hts gX6_knock_X0_hasTapped rfl rfl rfl (by decide +kernel) ⟨(Nat.le_of_ble_eq_true rfl), (Nat.le_of_ble_eq_true rfl)⟩) (prV hE hK hP hD hS hA [0, 1] rfl rfl 0 0 rfl rfl rfl) rfl rfl hl.1 rfl (lv_room (Nat.le_of_ble_eq_true rfl)) dX6_knock_32 ⟨(Nat.le_of_ble_eq_true rfl), (Nat.le_of_ble_eq_true rfl)⟩) hP hD hS hA [0, 1] [2] [1, 2, 0] rfl rfl rfl (by decide) rfl rfl (fun H locs hP hD hS => ?_)
      refine lv_if_eq (tgt := 51) hx hb dX6_knock_35 (by decide) (fun c6 => ?_) (fun c6 => ?_)
      · have hF := oT c6 hF
        refine lv_iconst (v := (1 : Int32)) hx hb dX6_knock_51 (by decide) ?_
        refine lv_aload_n hx hb dX6_knock_52 rfl (lv_at hl 1 rfl) ?_
        refine lv_iload_n hx hb dX6_knock_53 rfl (lv_at hl 2 rfl) ?_
        refine lv_iconst (v := (0 : Int32)) hx hb dX6_knock_54 (by decide) ?_
        obtain ⟨v7, hv7, hF⟩ := oB hF
        refine call_i (wr := [(aR, .inr (4, [.int rR, .int rD]))]) (wn := [(aC, .inr (0, [.ref aCr])), (aCr, .inl (K 0, 55, .inl row)), (aR, .inr (4, [.int rR, .int rD]))]) (va_runV (As := [.int p2, .int (0 : Int32)]) (rest := [.int (1 : Int32)]) ⟨hx, hb, hml, hown, hts⟩ (c_X0_of l D K aC aCr row p2 (0 : Int32) v7 hv7 H.size) (cwV 2 hts gX6_knock_X0_of rfl rfl rfl (by decide +kernel) ⟨(Nat.le_of_ble_eq_true rfl), (Nat.le_of_ble_eq_true rfl)⟩) (prV hE hK hP hD hS hA [0, 1] rfl rfl 0 0 rfl rfl rfl) rfl rfl hl.1 rfl (lv_room (Nat.le_of_ble_eq_true rfl)) dX6_knock_55 ⟨(Nat.le_of_ble_eq_true rfl), (Nat.le_of_ble_eq_true rfl)⟩) hP hD hS hA [0, 1] [2] [1, 2, 0] rfl rfl rfl (by decide) rfl rfl (fun H locs hP hD hS => ?_)
        refine lv_icmp_le (tgt := 75) hx hb dX6_knock_58 (by decide) (fun c8 => ?_) (fun c8 => ?_)
        · have hF := oT c8 hF
          refine lv_aload_n hx hb dX6_knock_75 rfl (lv_at hl 1 rfl) ?_
          refine lv_iload_n hx hb dX6_knock_76 rfl (lv_at hl 2 rfl) ?_
          refine lv_iconst (v := (1 : Int32)) hx hb dX6_knock_77 (by decide) ?_
          obtain ⟨v9, hv9, hF⟩ := oB hF
          refine call_v (wr := [(aR, .inr (4, [.int rR, .int rD]))]) (wn := [(aC, .inr (0, [.ref aCr])), (aCr, .inl (K 0, 55, .inl v9)), (aR, .inr (4, [.int rR, .int rD]))]) (va_runV (As := [.int p2, .int (1 : Int32)]) (rest := []) ⟨hx, hb, hml, hown, hts⟩ (c_X0_payIntoPot l D K aC aCr row p2 (1 : Int32) v9 hv9 H.size) (cwV 2 hts gX6_knock_X0_payIntoPot rfl rfl rfl (by decide +kernel) ⟨(Nat.le_of_ble_eq_true rfl), (Nat.le_of_ble_eq_true rfl)⟩) (prV hE hK hP hD hS hA [0, 1] rfl rfl 0 0 rfl rfl rfl) rfl rfl hl.1 rfl (lv_room (Nat.le_of_ble_eq_true rfl)) dX6_knock_78 ⟨(Nat.le_of_ble_eq_true rfl), (Nat.le_of_ble_eq_true rfl)⟩) hP hD hS hA [0, 1] [2] [1, 2, 0] rfl rfl rfl (by decide) rfl rfl (fun H locs hP hD hS => ?_)
          refine lv_aload_n hx hb dX6_knock_81 rfl (lv_at hl 1 rfl) ?_
          refine lv_bipush (v := (10 : Int32)) hx hb dX6_knock_82 (by decide) ?_
          refine lv_iconst (v := (1 : Int32)) hx hb dX6_knock_84 (by decide) ?_
          obtain ⟨v10, hv10, hF⟩ := oB hF
          refine call_v (wr := [(aR, .inr (4, [.int rR, .int rD]))]) (wn := [(aC, .inr (0, [.ref aCr])), (aCr, .inl (K 0, 55, .inl v10)), (aR, .inr (4, [.int rR, .int rD]))]) (va_runV (As := [.int (10 : Int32), .int (1 : Int32)]) (rest := []) ⟨hx, hb, hml, hown, hts⟩ (c_X0_add l D K aC aCr v9 (10 : Int32) (1 : Int32) v10 hv10 H.size) (cwV 2 hts gX6_knock_X0_add rfl rfl rfl (by decide +kernel) ⟨(Nat.le_of_ble_eq_true rfl), (Nat.le_of_ble_eq_true rfl)⟩) (prV hE hK hP hD hS hA [0, 1] rfl rfl 0 0 rfl rfl rfl) rfl rfl hl.1 rfl (lv_room (Nat.le_of_ble_eq_true rfl)) dX6_knock_85 ⟨(Nat.le_of_ble_eq_true rfl), (Nat.le_of_ble_eq_true rfl)⟩) hP hD hS hA [0, 1] [2] [1, 2, 0] rfl rfl rfl (by decide) rfl rfl (fun H locs hP hD hS => ?_)
          refine lv_aload_n hx hb dX6_knock_88 rfl (lv_at hl 1 rfl) ?_
          refine lv_iload_n hx hb dX6_knock_89 rfl (lv_at hl 2 rfl) ?_
          refine lv_iconst (v := (4 : Int32)) hx hb dX6_knock_90 (by decide) ?_
          refine lv_iconst (v := (1 : Int32)) hx hb dX6_knock_91 (by decide) ?_
          obtain ⟨v11, hv11, hF⟩ := oB hF
          refine call_v (wr := [(aR, .inr (4, [.int rR, .int rD]))]) (wn := [(aC, .inr (0, [.ref aCr])), (aCr, .inl (K 0, 55, .inl v11)), (aR, .inr (4, [.int rR, .int rD]))]) (va_runV (As := [.int p2, .int (4 : Int32), .int (1 : Int32)]) (rest := []) ⟨hx, hb, hml, hown, hts⟩ (c_X0_setOf l D K aC aCr v10 p2 (4 : Int32) (1 : Int32) v11 hv11 H.size) (cwV 3 hts gX6_knock_X0_setOf rfl rfl rfl (by decide +kernel) ⟨(Nat.le_of_ble_eq_true rfl), (Nat.le_of_ble_eq_true rfl)⟩) (prV hE hK hP hD hS hA [0, 1] rfl rfl 0 0 rfl rfl rfl) rfl rfl hl.1 rfl (lv_room (Nat.le_of_ble_eq_true rfl)) dX6_knock_92 ⟨(Nat.le_of_ble_eq_true rfl), (Nat.le_of_ble_eq_true rfl)⟩) hP hD hS hA [0, 1] [2] [1, 2, 0] rfl rfl rfl (by decide) rfl rfl (fun H locs hP hD hS => ?_)
          refine lv_aload_n hx hb dX6_knock_95 rfl (lv_at hl 1 rfl) ?_
          refine lv_iconst (v := (2 : Int32)) hx hb dX6_knock_96 (by decide) ?_
          obtain ⟨v12, hv12, hF⟩ := oB hF
          refine call_i (wr := [(aR, .inr (4, [.int rR, .int rD]))]) (wn := [(aC, .inr (0, [.ref aCr])), (aCr, .inl (K 0, 55, .inl v11)), (aR, .inr (4, [.int rR, .int rD]))]) (va_runV (As := [.int (2 : Int32)]) (rest := []) ⟨hx, hb, hml, hown, hts⟩ (c_X0_get l D K aC aCr v11 (2 : Int32) v12 hv12 H.size) (cwV 1 hts gX6_knock_X0_get rfl rfl rfl (by decide +kernel) ⟨(Nat.le_of_ble_eq_true rfl), (Nat.le_of_ble_eq_true rfl)⟩) (prV hE hK hP hD hS hA [0, 1] rfl rfl 0 0 rfl rfl rfl) rfl rfl hl.1 rfl (lv_room (Nat.le_of_ble_eq_true rfl)) dX6_knock_97 ⟨(Nat.le_of_ble_eq_true rfl), (Nat.le_of_ble_eq_true rfl)⟩) hP hD hS hA [0, 1] [2] [1, 2, 0] rfl rfl rfl (by decide) rfl rfl (fun H locs hP hD hS => ?_)
          obtain ⟨v13, hv13, hF⟩ := oB hF
          refine call_i (wr := [(aC, .inr (0, [.ref aCr])), (aCr, .inl (K 0, 55, .inl v11)), (aR, .inr (4, [.int rR, .int rD]))]) (wn := [(aC, .inr (0, [.ref aCr])), (aCr, .inl (K 0, 55, .inl v11)), (aR, .inr (4, [.int rR, .int rD]))]) (va_runSN (As := [.int v12.1]) (rest := []) ⟨hx, hb, hml, hown, hts⟩ (c_X7_signOf l D K v12.1 v13 hv13 H.size) ⟨va_cnB 1 hts gX6_knock_X7_signOf_n109 rfl rfl rfl (hE.2.2.1 _ (List.mem_of_getElem? (i := 6) rfl)) (hts (.initialized RX7) (List.mem_of_getElem? (i := 59) rfl)) (by decide +kernel) ⟨(Nat.le_of_ble_eq_true rfl), (Nat.le_of_ble_eq_true rfl)⟩, (hts (.static yX7_signOf) (List.mem_of_getElem? (i := 58) rfl)), trivial⟩ (prS hE hK hP hD hS hA [] rfl rfl) rfl rfl hl.1 rfl (lv_room (Nat.le_of_ble_eq_true rfl)) dX6_knock_100 ⟨(Nat.le_of_ble_eq_true rfl), (Nat.le_of_ble_eq_true rfl)⟩) hP hD hS hA [] [0, 1, 2] [0, 1, 2] rfl rfl rfl (by decide) rfl rfl (fun H locs hP hD hS => ?_)
          exact fin_i (u := (v13.1, (v11, rR, rD))) hF hx hb hr hlocks hK hP hD hS (Nat.le_of_ble_eq_true rfl) (Nat.le_of_ble_eq_true rfl) dX6_knock_103
        · have hF := oF c8 hF
          refine lv_aload_n hx hb dX6_knock_61 rfl (lv_at hl 0 rfl) ?_
          refine lv_iconst (v := (5 : Int32)) hx hb dX6_knock_62 (by decide) ?_
          refine lv_iconst (v := (1 : Int32)) hx hb dX6_knock_63 (by decide) ?_
          refine lv_aload_n hx hb dX6_knock_64 rfl (lv_at hl 1 rfl) ?_
          refine lv_iload_n hx hb dX6_knock_65 rfl (lv_at hl 2 rfl) ?_
          refine lv_iconst (v := (0 : Int32)) hx hb dX6_knock_66 (by decide) ?_
          obtain ⟨v14, hv14, hF⟩ := oB hF
          refine call_i (wr := [(aR, .inr (4, [.int rR, .int rD]))]) (wn := [(aC, .inr (0, [.ref aCr])), (aCr, .inl (K 0, 55, .inl row)), (aR, .inr (4, [.int rR, .int rD]))]) (va_runV (As := [.int p2, .int (0 : Int32)]) (rest := [.int (1 : Int32), .int (5 : Int32), .ref aR]) ⟨hx, hb, hml, hown, hts⟩ (c_X0_of l D K aC aCr row p2 (0 : Int32) v14 hv14 H.size) (cwV 2 hts gX6_knock_X0_of rfl rfl rfl (by decide +kernel) ⟨(Nat.le_of_ble_eq_true rfl), (Nat.le_of_ble_eq_true rfl)⟩) (prV hE hK hP hD hS hA [0, 1] rfl rfl 0 0 rfl rfl rfl) rfl rfl hl.1 rfl (lv_room (Nat.le_of_ble_eq_true rfl)) dX6_knock_67 ⟨(Nat.le_of_ble_eq_true rfl), (Nat.le_of_ble_eq_true rfl)⟩) hP hD hS hA [0, 1] [2] [1, 2, 0] rfl rfl rfl (by decide) rfl rfl (fun H locs hP hD hS => ?_)
          refine lv_isub hx hb dX6_knock_70 ?_
          obtain ⟨v15, hv15, hF⟩ := oB hF
          refine call_i (wr := [(aC, .inr (0, [.ref aCr])), (aCr, .inl (K 0, 55, .inl row))]) (wn := [(aC, .inr (0, [.ref aCr])), (aCr, .inl (K 0, 55, .inl row)), (aR, .inr (4, [.int v15.2.1, .int v15.2.2]))]) (va_runV (As := [.int (5 : Int32), .int ((1 : Int32) - v14.1)]) (rest := []) ⟨hx, hb, hml, hown, hts⟩ (c_X6_refuse l D K aR rR rD (5 : Int32) ((1 : Int32) - v14.1) v15 hv15 H.size) (cwV 2 hts gX6_knock_X6_refuse rfl rfl rfl (by decide +kernel) ⟨(Nat.le_of_ble_eq_true rfl), (Nat.le_of_ble_eq_true rfl)⟩) (prV hE hK hP hD hS hA [2] rfl rfl 4 2 rfl rfl rfl) rfl rfl hl.1 rfl (lv_room (Nat.le_of_ble_eq_true rfl)) dX6_knock_71 ⟨(Nat.le_of_ble_eq_true rfl), (Nat.le_of_ble_eq_true rfl)⟩) hP hD hS hA [2] [0, 1] [0, 1, 2] rfl rfl rfl (by decide) rfl rfl (fun H locs hP hD hS => ?_)
          exact fin_i (u := (v15.1, (row, v15.2.1, v15.2.2))) hF hx hb hr hlocks hK hP hD hS (Nat.le_of_ble_eq_true rfl) (Nat.le_of_ble_eq_true rfl) dX6_knock_74
      · have hF := oF c6 hF
        refine lv_aload_n hx hb dX6_knock_38 rfl (lv_at hl 0 rfl) ?_
        refine lv_bipush (v := (9 : Int32)) hx hb dX6_knock_39 (by decide) ?_
        refine lv_aload_n hx hb dX6_knock_41 rfl (lv_at hl 1 rfl) ?_
        refine lv_iload_n hx hb dX6_knock_42 rfl (lv_at hl 2 rfl) ?_
        refine lv_iconst (v := (3 : Int32)) hx hb dX6_knock_43 (by decide) ?_
        obtain ⟨v16, hv16, hF⟩ := oB hF
        refine call_i (wr := [(aR, .inr (4, [.int rR, .int rD]))]) (wn := [(aC, .inr (0, [.ref aCr])), (aCr, .inl (K 0, 55, .inl row)), (aR, .inr (4, [.int rR, .int rD]))]) (va_runV (As := [.int p2, .int (3 : Int32)]) (rest := [.int (9 : Int32), .ref aR]) ⟨hx, hb, hml, hown, hts⟩ (c_X0_of l D K aC aCr row p2 (3 : Int32) v16 hv16 H.size) (cwV 2 hts gX6_knock_X0_of rfl rfl rfl (by decide +kernel) ⟨(Nat.le_of_ble_eq_true rfl), (Nat.le_of_ble_eq_true rfl)⟩) (prV hE hK hP hD hS hA [0, 1] rfl rfl 0 0 rfl rfl rfl) rfl rfl hl.1 rfl (lv_room (Nat.le_of_ble_eq_true rfl)) dX6_knock_44 ⟨(Nat.le_of_ble_eq_true rfl), (Nat.le_of_ble_eq_true rfl)⟩) hP hD hS hA [0, 1] [2] [1, 2, 0] rfl rfl rfl (by decide) rfl rfl (fun H locs hP hD hS => ?_)
        obtain ⟨v17, hv17, hF⟩ := oB hF
        refine call_i (wr := [(aC, .inr (0, [.ref aCr])), (aCr, .inl (K 0, 55, .inl row))]) (wn := [(aC, .inr (0, [.ref aCr])), (aCr, .inl (K 0, 55, .inl row)), (aR, .inr (4, [.int v17.2.1, .int v17.2.2]))]) (va_runV (As := [.int (9 : Int32), .int v16.1]) (rest := []) ⟨hx, hb, hml, hown, hts⟩ (c_X6_refuse l D K aR rR rD (9 : Int32) v16.1 v17 hv17 H.size) (cwV 2 hts gX6_knock_X6_refuse rfl rfl rfl (by decide +kernel) ⟨(Nat.le_of_ble_eq_true rfl), (Nat.le_of_ble_eq_true rfl)⟩) (prV hE hK hP hD hS hA [2] rfl rfl 4 2 rfl rfl rfl) rfl rfl hl.1 rfl (lv_room (Nat.le_of_ble_eq_true rfl)) dX6_knock_47 ⟨(Nat.le_of_ble_eq_true rfl), (Nat.le_of_ble_eq_true rfl)⟩) hP hD hS hA [2] [0, 1] [0, 1, 2] rfl rfl rfl (by decide) rfl rfl (fun H locs hP hD hS => ?_)
        exact fin_i (u := (v17.1, (row, v17.2.1, v17.2.2))) hF hx hb hr hlocks hK hP hD hS (Nat.le_of_ble_eq_true rfl) (Nat.le_of_ble_eq_true rfl) dX6_knock_50
    · have hF := oT c4 hF
      refine lv_aload_n hx hb dX6_knock_22 rfl (lv_at hl 0 rfl) ?_
      refine lv_bipush (v := (8 : Int32)) hx hb dX6_knock_23 (by decide) ?_
      refine lv_iconst (v := (0 : Int32)) hx hb dX6_knock_25 (by decide) ?_
      obtain ⟨v18, hv18, hF⟩ := oB hF
      refine call_i (wr := [(aC, .inr (0, [.ref aCr])), (aCr, .inl (K 0, 55, .inl row))]) (wn := [(aC, .inr (0, [.ref aCr])), (aCr, .inl (K 0, 55, .inl row)), (aR, .inr (4, [.int v18.2.1, .int v18.2.2]))]) (va_runV (As := [.int (8 : Int32), .int (0 : Int32)]) (rest := []) ⟨hx, hb, hml, hown, hts⟩ (c_X6_refuse l D K aR rR rD (8 : Int32) (0 : Int32) v18 hv18 H.size) (cwV 2 hts gX6_knock_X6_refuse rfl rfl rfl (by decide +kernel) ⟨(Nat.le_of_ble_eq_true rfl), (Nat.le_of_ble_eq_true rfl)⟩) (prV hE hK hP hD hS hA [2] rfl rfl 4 2 rfl rfl rfl) rfl rfl hl.1 rfl (lv_room (Nat.le_of_ble_eq_true rfl)) dX6_knock_26 ⟨(Nat.le_of_ble_eq_true rfl), (Nat.le_of_ble_eq_true rfl)⟩) hP hD hS hA [2] [0, 1] [0, 1, 2] rfl rfl rfl (by decide) rfl rfl (fun H locs hP hD hS => ?_)
      exact fin_i (u := (v18.1, (row, v18.2.1, v18.2.2))) hF hx hb hr hlocks hK hP hD hS (Nat.le_of_ble_eq_true rfl) (Nat.le_of_ble_eq_true rfl) dX6_knock_29
  · have hF := oT c2 hF
    refine lv_aload_n hx hb dX6_knock_8 rfl (lv_at hl 0 rfl) ?_
    refine lv_aload_n hx hb dX6_knock_9 rfl (lv_at hl 1 rfl) ?_
    obtain ⟨v19, hv19, hF⟩ := oB hF
    refine call_i (wr := []) (wn := [(aC, .inr (0, [.ref aCr])), (aCr, .inl (K 0, 55, .inl row)), (aR, .inr (4, [.int v19.2.1, .int v19.2.2]))]) (va_runV (As := [.ref aC]) (rest := []) ⟨hx, hb, hml, hown, hts⟩ (c_X6_refuseStranger l D K aC aCr aR row rR rD v19 hv19 H.size) (cwV 1 hts gX6_knock_X6_refuseStranger rfl rfl rfl (by decide +kernel) ⟨(Nat.le_of_ble_eq_true rfl), (Nat.le_of_ble_eq_true rfl)⟩) (prV hE hK hP hD hS hA [0, 1, 2] rfl rfl 4 2 rfl rfl rfl) rfl rfl hl.1 rfl (lv_room (Nat.le_of_ble_eq_true rfl)) dX6_knock_10 ⟨(Nat.le_of_ble_eq_true rfl), (Nat.le_of_ble_eq_true rfl)⟩) hP hD hS hA [0, 1, 2] [] [0, 1, 2] rfl rfl rfl (by decide) rfl rfl (fun H locs hP hD hS => ?_)
    exact fin_i (u := (v19.1, (row, v19.2.1, v19.2.2))) hF hx hb hr hlocks hK hP hD hS (Nat.le_of_ble_eq_true rfl) (Nat.le_of_ble_eq_true rfl) dX6_knock_13
abbrev RM_X6_passDay : Room := { frames := 3, cells := 0, slots := 0, locals := 65 }
abbrev MC_X6_passDay : Nat := 0
abbrev MS_X6_passDay : Nat := 0
abbrev wf_X6_passDay (K : Nat → ClassId) (aC : Nat) (aCr : Nat) (aR : Nat)  (v : Int32 × (Nat → Int32) × Int32 × Int32) : va_W := [(aC, .inr (0, [.ref aCr])), (aCr, .inl (K 0, 55, .inl v.2.1)), (aR, .inr (4, [.int v.2.2.1, .int v.2.2.2]))]
set_option maxHeartbeats 4000000 in
set_option maxRecDepth 100000 in
theorem c_X6_passDay (l : Launch) (D : va_G) (K : Nat → ClassId) (aC : Nat) (aCr : Nat) (aR : Nat) (row : Nat → Int32) (rR : Int32) (rD : Int32) (p2 : Int32) (v : Int32 × (Nat → Int32) × Int32 × Int32) (hF : f_X6_passDay row rR rD p2 = some v) (sz : Nat) :
    (Met l yX6_passDay wsX6_passDay RM_X6_passDay (PC D (TY K) [(aC, .inr (0, [.ref aCr])), (aCr, .inl (K 0, 55, .inl row)), (aR, .inr (4, [.int rR, .int rD]))] [.ref aR, .ref aC, .int p2] sz) (QI D (TY K) (wf_X6_passDay K aC aCr aR) v (va_A [(aC, .inr (0, [.ref aCr])), (aCr, .inl (K 0, 55, .inl row)), (aR, .inr (4, [.int rR, .int rD]))] sz)) MC_X6_passDay MS_X6_passDay (va_A [(aC, .inr (0, [.ref aCr])), (aCr, .inl (K 0, 55, .inl row)), (aR, .inr (4, [.int rR, .int rD]))] sz)) := by
  refine pro (Qf := fun A => QI D (TY K) (wf_X6_passDay K aC aCr aR) v A) (cc := cX6_passDay) (maxL := 4) (ret := (some .int)) (by decide +kernel) rfl (Nat.le_of_ble_eq_true rfl) ?_
  intro p e s m args below meth c hx hb hr hts hown hlocks hml hini hK A hA hE hP hD hS ls hl
  have hown : s.vm.findClass RX6 = some m.cls := hown
  have hl : lv_has ls 4 [(0, .ref aR), (1, .ref aC), (2, .int p2)] := hl
  rw [f_X6_passDay] at hF
  refine lv_iload_n hx hb dX6_passDay_0 rfl (lv_at hl 2 rfl) ?_
  obtain ⟨v1, hv1, hF⟩ := oB hF
  refine call_i (wr := [(aC, .inr (0, [.ref aCr])), (aCr, .inl (K 0, 55, .inl row)), (aR, .inr (4, [.int rR, .int rD]))]) (wn := [(aC, .inr (0, [.ref aCr])), (aCr, .inl (K 0, 55, .inl row)), (aR, .inr (4, [.int rR, .int rD]))]) (va_runSN (As := [.int p2]) (rest := []) ⟨hx, hb, hml, hown, hts⟩ (c_X7_isChange l D K p2 v1 hv1 s.heap.size) ⟨va_cnB 1 hts gX6_passDay_X7_isChange_n112 rfl rfl rfl (hE.2.2.1 _ (List.mem_of_getElem? (i := 7) rfl)) (hts (.initialized RX7) (List.mem_of_getElem? (i := 2) rfl)) (by decide +kernel) ⟨(Nat.le_of_ble_eq_true rfl), (Nat.le_of_ble_eq_true rfl)⟩, (hts (.static yX7_isChange) (List.mem_of_getElem? (i := 1) rfl)), trivial⟩ (prS hE hK hP hD hS hA [] rfl rfl) rfl rfl hl.1 rfl (lv_room (Nat.le_of_ble_eq_true rfl)) dX6_passDay_1 ⟨(Nat.le_of_ble_eq_true rfl), (Nat.le_of_ble_eq_true rfl)⟩) hP hD hS hA [] [0, 1, 2] [0, 1, 2] rfl rfl rfl (by decide) rfl rfl (fun H locs hP hD hS => ?_)
  refine lv_if_ne (tgt := 14) hx hb dX6_passDay_4 (by decide) (fun c2 => ?_) (fun c2 => ?_)
  · have hF := oF c2 hF
    refine lv_aload_n hx hb dX6_passDay_14 rfl (lv_at hl 1 rfl) ?_
    refine lv_iconst (v := (1 : Int32)) hx hb dX6_passDay_15 (by decide) ?_
    obtain ⟨v3, hv3, hF⟩ := oB hF
    refine call_i (wr := [(aR, .inr (4, [.int rR, .int rD]))]) (wn := [(aC, .inr (0, [.ref aCr])), (aCr, .inl (K 0, 55, .inl row)), (aR, .inr (4, [.int rR, .int rD]))]) (va_runV (As := [.int (1 : Int32)]) (rest := []) ⟨hx, hb, hml, hown, hts⟩ (c_X0_get l D K aC aCr row (1 : Int32) v3 hv3 H.size) (cwV 1 hts gX6_passDay_X0_get rfl rfl rfl (by decide +kernel) ⟨(Nat.le_of_ble_eq_true rfl), (Nat.le_of_ble_eq_true rfl)⟩) (prV hE hK hP hD hS hA [0, 1] rfl rfl 0 0 rfl rfl rfl) rfl rfl hl.1 rfl (lv_room (Nat.le_of_ble_eq_true rfl)) dX6_passDay_16 ⟨(Nat.le_of_ble_eq_true rfl), (Nat.le_of_ble_eq_true rfl)⟩) hP hD hS hA [0, 1] [2] [1, 2, 0] rfl rfl rfl (by decide) rfl rfl (fun H locs hP hD hS => ?_)
    refine lv_iload_n hx hb dX6_passDay_19 rfl (lv_at hl 2 rfl) ?_
    refine lv_iadd hx hb dX6_passDay_20 ?_
    refine lv_istore_n (lv' := [(3, .int (v3.1 + p2)), (0, .ref aR), (1, .ref aC), (2, .int p2)]) hx hb dX6_passDay_21 rfl hl (by decide) rfl (fun ls hl => ?_)
    refine lv_iload_n hx hb dX6_passDay_22 rfl (lv_at hl 0 rfl) ?_
    obtain ⟨v4, hv4, hF⟩ := oB hF
    refine call_i (wr := [(aC, .inr (0, [.ref aCr])), (aCr, .inl (K 0, 55, .inl row)), (aR, .inr (4, [.int rR, .int rD]))]) (wn := [(aC, .inr (0, [.ref aCr])), (aCr, .inl (K 0, 55, .inl row)), (aR, .inr (4, [.int rR, .int rD]))]) (va_runSN (As := [.int (v3.1 + p2)]) (rest := []) ⟨hx, hb, hml, hown, hts⟩ (c_X7_isPressure l D K (v3.1 + p2) v4 hv4 H.size) ⟨va_cnB 1 hts gX6_passDay_X7_isPressure_n115 rfl rfl rfl (hE.2.2.1 _ (List.mem_of_getElem? (i := 8) rfl)) (hts (.initialized RX7) (List.mem_of_getElem? (i := 2) rfl)) (by decide +kernel) ⟨(Nat.le_of_ble_eq_true rfl), (Nat.le_of_ble_eq_true rfl)⟩, (hts (.static yX7_isPressure) (List.mem_of_getElem? (i := 17) rfl)), trivial⟩ (prS hE hK hP hD hS hA [] rfl rfl) rfl rfl hl.1 rfl (lv_room (Nat.le_of_ble_eq_true rfl)) dX6_passDay_23 ⟨(Nat.le_of_ble_eq_true rfl), (Nat.le_of_ble_eq_true rfl)⟩) hP hD hS hA [] [0, 1, 2] [0, 1, 2] rfl rfl rfl (by decide) rfl rfl (fun H locs hP hD hS => ?_)
    refine lv_if_ne (tgt := 37) hx hb dX6_passDay_26 (by decide) (fun c5 => ?_) (fun c5 => ?_)
    · have hF := oF c5 hF
      refine lv_aload_n hx hb dX6_passDay_37 rfl (lv_at hl 2 rfl) ?_
      refine lv_iload_n hx hb dX6_passDay_38 rfl (lv_at hl 3 rfl) ?_
      obtain ⟨v6, hv6, hF⟩ := oB hF
      refine call_v (wr := [(aR, .inr (4, [.int rR, .int rD]))]) (wn := [(aC, .inr (0, [.ref aCr])), (aCr, .inl (K 0, 55, .inl v6)), (aR, .inr (4, [.int rR, .int rD]))]) (va_runV (As := [.int p2]) (rest := []) ⟨hx, hb, hml, hown, hts⟩ (c_X0_changePressure l D K aC aCr row p2 v6 hv6 H.size) (cwV 1 hts gX6_passDay_X0_changePressure rfl rfl rfl (by decide +kernel) ⟨(Nat.le_of_ble_eq_true rfl), (Nat.le_of_ble_eq_true rfl)⟩) (prV hE hK hP hD hS hA [0, 1] rfl rfl 0 0 rfl rfl rfl) rfl rfl hl.1 rfl (lv_room (Nat.le_of_ble_eq_true rfl)) dX6_passDay_39 ⟨(Nat.le_of_ble_eq_true rfl), (Nat.le_of_ble_eq_true rfl)⟩) hP hD hS hA [0, 1] [2] [1, 2, 0] rfl rfl rfl (by decide) rfl rfl (fun H locs hP hD hS => ?_)
      refine lv_aload_n hx hb dX6_passDay_42 rfl (lv_at hl 2 rfl) ?_
      refine lv_iconst (v := (4 : Int32)) hx hb dX6_passDay_43 (by decide) ?_
      refine lv_iconst (v := (1 : Int32)) hx hb dX6_passDay_44 (by decide) ?_
      obtain ⟨v7, hv7, hF⟩ := oB hF
      refine call_v (wr := [(aR, .inr (4, [.int rR, .int rD]))]) (wn := [(aC, .inr (0, [.ref aCr])), (aCr, .inl (K 0, 55, .inl v7)), (aR, .inr (4, [.int rR, .int rD]))]) (va_runV (As := [.int (4 : Int32), .int (1 : Int32)]) (rest := []) ⟨hx, hb, hml, hown, hts⟩ (c_X0_add l D K aC aCr v6 (4 : Int32) (1 : Int32) v7 hv7 H.size) (cwV 2 hts gX6_passDay_X0_add rfl rfl rfl (by decide +kernel) ⟨(Nat.le_of_ble_eq_true rfl), (Nat.le_of_ble_eq_true rfl)⟩) (prV hE hK hP hD hS hA [0, 1] rfl rfl 0 0 rfl rfl rfl) rfl rfl hl.1 rfl (lv_room (Nat.le_of_ble_eq_true rfl)) dX6_passDay_45 ⟨(Nat.le_of_ble_eq_true rfl), (Nat.le_of_ble_eq_true rfl)⟩) hP hD hS hA [0, 1] [2] [1, 2, 0] rfl rfl rfl (by decide) rfl rfl (fun H locs hP hD hS => ?_)
      refine lv_iload_n hx hb dX6_passDay_48 rfl (lv_at hl 3 rfl) ?_
      refine lv_bipush (v := (-20 : Int32)) hx hb dX6_passDay_49 (by decide) ?_
      refine lv_icmp_gt (tgt := 66) hx hb dX6_passDay_51 (by decide) (fun c8 => ?_) (fun c8 => ?_)
      · have hF := oT c8 hF
        refine lv_iload_n hx hb dX6_passDay_66 rfl (lv_at hl 0 rfl) ?_
        exact fin_i (u := (v3.1 + p2, (v7, rR, rD))) hF hx hb hr hlocks hK hP hD hS (Nat.le_of_ble_eq_true rfl) (Nat.le_of_ble_eq_true rfl) dX6_passDay_67
      · have hF := oF c8 hF
        refine lv_aload_n hx hb dX6_passDay_54 rfl (lv_at hl 2 rfl) ?_
        refine lv_iconst (v := (3 : Int32)) hx hb dX6_passDay_55 (by decide) ?_
        refine lv_iconst (v := (1 : Int32)) hx hb dX6_passDay_56 (by decide) ?_
        obtain ⟨v9, hv9, hF⟩ := oB hF
        refine call_v (wr := [(aR, .inr (4, [.int rR, .int rD]))]) (wn := [(aC, .inr (0, [.ref aCr])), (aCr, .inl (K 0, 55, .inl v9)), (aR, .inr (4, [.int rR, .int rD]))]) (va_runV (As := [.int (3 : Int32), .int (1 : Int32)]) (rest := []) ⟨hx, hb, hml, hown, hts⟩ (c_X0_set l D K aC aCr v7 (3 : Int32) (1 : Int32) v9 hv9 H.size) (cwV 2 hts gX6_passDay_X0_set rfl rfl rfl (by decide +kernel) ⟨(Nat.le_of_ble_eq_true rfl), (Nat.le_of_ble_eq_true rfl)⟩) (prV hE hK hP hD hS hA [0, 1] rfl rfl 0 0 rfl rfl rfl) rfl rfl hl.1 rfl (lv_room (Nat.le_of_ble_eq_true rfl)) dX6_passDay_57 ⟨(Nat.le_of_ble_eq_true rfl), (Nat.le_of_ble_eq_true rfl)⟩) hP hD hS hA [0, 1] [2] [1, 2, 0] rfl rfl rfl (by decide) rfl rfl (fun H locs hP hD hS => ?_)
        refine lv_aload_n hx hb dX6_passDay_60 rfl (lv_at hl 2 rfl) ?_
        refine lv_iconst (v := (5 : Int32)) hx hb dX6_passDay_61 (by decide) ?_
        refine lv_iconst (v := (1 : Int32)) hx hb dX6_passDay_62 (by decide) ?_
        obtain ⟨v10, hv10, hF⟩ := oB hF
        refine call_v (wr := [(aR, .inr (4, [.int rR, .int rD]))]) (wn := [(aC, .inr (0, [.ref aCr])), (aCr, .inl (K 0, 55, .inl v10)), (aR, .inr (4, [.int rR, .int rD]))]) (va_runV (As := [.int (5 : Int32), .int (1 : Int32)]) (rest := []) ⟨hx, hb, hml, hown, hts⟩ (c_X0_add l D K aC aCr v9 (5 : Int32) (1 : Int32) v10 hv10 H.size) (cwV 2 hts gX6_passDay_X0_add rfl rfl rfl (by decide +kernel) ⟨(Nat.le_of_ble_eq_true rfl), (Nat.le_of_ble_eq_true rfl)⟩) (prV hE hK hP hD hS hA [0, 1] rfl rfl 0 0 rfl rfl rfl) rfl rfl hl.1 rfl (lv_room (Nat.le_of_ble_eq_true rfl)) dX6_passDay_63 ⟨(Nat.le_of_ble_eq_true rfl), (Nat.le_of_ble_eq_true rfl)⟩) hP hD hS hA [0, 1] [2] [1, 2, 0] rfl rfl rfl (by decide) rfl rfl (fun H locs hP hD hS => ?_)
        refine lv_iload_n hx hb dX6_passDay_66 rfl (lv_at hl 0 rfl) ?_
        exact fin_i (u := (v3.1 + p2, (v10, rR, rD))) hF hx hb hr hlocks hK hP hD hS (Nat.le_of_ble_eq_true rfl) (Nat.le_of_ble_eq_true rfl) dX6_passDay_67
    · have hF := oT c5 hF
      refine lv_aload_n hx hb dX6_passDay_29 rfl (lv_at hl 1 rfl) ?_
      refine lv_bipush (v := (13 : Int32)) hx hb dX6_passDay_30 (by decide) ?_
      refine lv_iload_n hx hb dX6_passDay_32 rfl (lv_at hl 0 rfl) ?_
      obtain ⟨v11, hv11, hF⟩ := oB hF
      refine call_i (wr := [(aC, .inr (0, [.ref aCr])), (aCr, .inl (K 0, 55, .inl row))]) (wn := [(aC, .inr (0, [.ref aCr])), (aCr, .inl (K 0, 55, .inl row)), (aR, .inr (4, [.int v11.2.1, .int v11.2.2]))]) (va_runV (As := [.int (13 : Int32), .int (v3.1 + p2)]) (rest := []) ⟨hx, hb, hml, hown, hts⟩ (c_X6_refuse l D K aR rR rD (13 : Int32) (v3.1 + p2) v11 hv11 H.size) (cwV 2 hts gX6_passDay_X6_refuse rfl rfl rfl (by decide +kernel) ⟨(Nat.le_of_ble_eq_true rfl), (Nat.le_of_ble_eq_true rfl)⟩) (prV hE hK hP hD hS hA [2] rfl rfl 4 2 rfl rfl rfl) rfl rfl hl.1 rfl (lv_room (Nat.le_of_ble_eq_true rfl)) dX6_passDay_33 ⟨(Nat.le_of_ble_eq_true rfl), (Nat.le_of_ble_eq_true rfl)⟩) hP hD hS hA [2] [0, 1] [0, 1, 2] rfl rfl rfl (by decide) rfl rfl (fun H locs hP hD hS => ?_)
      exact fin_i (u := (v11.1, (row, v11.2.1, v11.2.2))) hF hx hb hr hlocks hK hP hD hS (Nat.le_of_ble_eq_true rfl) (Nat.le_of_ble_eq_true rfl) dX6_passDay_36
  · have hF := oT c2 hF
    refine lv_aload_n hx hb dX6_passDay_7 rfl (lv_at hl 0 rfl) ?_
    refine lv_iconst (v := (1 : Int32)) hx hb dX6_passDay_8 (by decide) ?_
    refine lv_iconst (v := (0 : Int32)) hx hb dX6_passDay_9 (by decide) ?_
    obtain ⟨v12, hv12, hF⟩ := oB hF
    refine call_i (wr := [(aC, .inr (0, [.ref aCr])), (aCr, .inl (K 0, 55, .inl row))]) (wn := [(aC, .inr (0, [.ref aCr])), (aCr, .inl (K 0, 55, .inl row)), (aR, .inr (4, [.int v12.2.1, .int v12.2.2]))]) (va_runV (As := [.int (1 : Int32), .int (0 : Int32)]) (rest := []) ⟨hx, hb, hml, hown, hts⟩ (c_X6_refuse l D K aR rR rD (1 : Int32) (0 : Int32) v12 hv12 H.size) (cwV 2 hts gX6_passDay_X6_refuse rfl rfl rfl (by decide +kernel) ⟨(Nat.le_of_ble_eq_true rfl), (Nat.le_of_ble_eq_true rfl)⟩) (prV hE hK hP hD hS hA [2] rfl rfl 4 2 rfl rfl rfl) rfl rfl hl.1 rfl (lv_room (Nat.le_of_ble_eq_true rfl)) dX6_passDay_10 ⟨(Nat.le_of_ble_eq_true rfl), (Nat.le_of_ble_eq_true rfl)⟩) hP hD hS hA [2] [0, 1] [0, 1, 2] rfl rfl rfl (by decide) rfl rfl (fun H locs hP hD hS => ?_)
    exact fin_i (u := (v12.1, (row, v12.2.1, v12.2.2))) hF hx hb hr hlocks hK hP hD hS (Nat.le_of_ble_eq_true rfl) (Nat.le_of_ble_eq_true rfl) dX6_passDay_13
abbrev RM_X6_fill : Room := { frames := 2, cells := 0, slots := 0, locals := 46 }
abbrev MC_X6_fill : Nat := 0
abbrev MS_X6_fill : Nat := 0
abbrev wf_X6_fill (K : Nat → ClassId) (aC : Nat) (aCr : Nat) (aR : Nat)  (v : Int32 × (Nat → Int32) × Int32 × Int32) : va_W := [(aC, .inr (0, [.ref aCr])), (aCr, .inl (K 0, 55, .inl v.2.1)), (aR, .inr (4, [.int v.2.2.1, .int v.2.2.2]))]
set_option maxHeartbeats 4000000 in
set_option maxRecDepth 100000 in
theorem c_X6_fill (l : Launch) (D : va_G) (K : Nat → ClassId) (aC : Nat) (aCr : Nat) (aR : Nat) (row : Nat → Int32) (rR : Int32) (rD : Int32) (p2 : Int32) (v : Int32 × (Nat → Int32) × Int32 × Int32) (hF : f_X6_fill row rR rD p2 = some v) (sz : Nat) :
    (Met l yX6_fill wsX6_fill RM_X6_fill (PC D (TY K) [(aC, .inr (0, [.ref aCr])), (aCr, .inl (K 0, 55, .inl row)), (aR, .inr (4, [.int rR, .int rD]))] [.ref aR, .ref aC, .int p2] sz) (QI D (TY K) (wf_X6_fill K aC aCr aR) v (va_A [(aC, .inr (0, [.ref aCr])), (aCr, .inl (K 0, 55, .inl row)), (aR, .inr (4, [.int rR, .int rD]))] sz)) MC_X6_fill MS_X6_fill (va_A [(aC, .inr (0, [.ref aCr])), (aCr, .inl (K 0, 55, .inl row)), (aR, .inr (4, [.int rR, .int rD]))] sz)) := by
  refine pro (Qf := fun A => QI D (TY K) (wf_X6_fill K aC aCr aR) v A) (cc := cX6_fill) (maxL := 4) (ret := (some .int)) (by decide +kernel) rfl (Nat.le_of_ble_eq_true rfl) ?_
  intro p e s m args below meth c hx hb hr hts hown hlocks hml hini hK A hA hE hP hD hS ls hl
  have hown : s.vm.findClass RX6 = some m.cls := hown
  have hl : lv_has ls 4 [(0, .ref aR), (1, .ref aC), (2, .int p2)] := hl
  rw [f_X6_fill] at hF
  refine lv_aload_n hx hb dX6_fill_0 rfl (lv_at hl 1 rfl) ?_
  refine lv_iload_n hx hb dX6_fill_1 rfl (lv_at hl 2 rfl) ?_
  obtain ⟨v1, hv1, hF⟩ := oB hF
  refine call_i (wr := [(aR, .inr (4, [.int rR, .int rD]))]) (wn := [(aC, .inr (0, [.ref aCr])), (aCr, .inl (K 0, 55, .inl row)), (aR, .inr (4, [.int rR, .int rD]))]) (va_runV (As := [.int p2]) (rest := []) ⟨hx, hb, hml, hown, hts⟩ (c_X0_isMember l D K aC aCr row p2 v1 hv1 s.heap.size) (cwV 1 hts gX6_fill_X0_isMember rfl rfl rfl (by decide +kernel) ⟨(Nat.le_of_ble_eq_true rfl), (Nat.le_of_ble_eq_true rfl)⟩) (prV hE hK hP hD hS hA [0, 1] rfl rfl 0 0 rfl rfl rfl) rfl rfl hl.1 rfl (lv_room (Nat.le_of_ble_eq_true rfl)) dX6_fill_2 ⟨(Nat.le_of_ble_eq_true rfl), (Nat.le_of_ble_eq_true rfl)⟩) hP hD hS hA [0, 1] [2] [1, 2, 0] rfl rfl rfl (by decide) rfl rfl (fun H locs hP hD hS => ?_)
  refine lv_if_ne (tgt := 14) hx hb dX6_fill_5 (by decide) (fun c2 => ?_) (fun c2 => ?_)
  · have hF := oF c2 hF
    refine lv_aload_n hx hb dX6_fill_14 rfl (lv_at hl 1 rfl) ?_
    refine lv_iconst (v := (3 : Int32)) hx hb dX6_fill_15 (by decide) ?_
    obtain ⟨v3, hv3, hF⟩ := oB hF
    refine call_i (wr := [(aR, .inr (4, [.int rR, .int rD]))]) (wn := [(aC, .inr (0, [.ref aCr])), (aCr, .inl (K 0, 55, .inl row)), (aR, .inr (4, [.int rR, .int rD]))]) (va_runV (As := [.int (3 : Int32)]) (rest := []) ⟨hx, hb, hml, hown, hts⟩ (c_X0_get l D K aC aCr row (3 : Int32) v3 hv3 H.size) (cwV 1 hts gX6_fill_X0_get rfl rfl rfl (by decide +kernel) ⟨(Nat.le_of_ble_eq_true rfl), (Nat.le_of_ble_eq_true rfl)⟩) (prV hE hK hP hD hS hA [0, 1] rfl rfl 0 0 rfl rfl rfl) rfl rfl hl.1 rfl (lv_room (Nat.le_of_ble_eq_true rfl)) dX6_fill_16 ⟨(Nat.le_of_ble_eq_true rfl), (Nat.le_of_ble_eq_true rfl)⟩) hP hD hS hA [0, 1] [2] [1, 2, 0] rfl rfl rfl (by decide) rfl rfl (fun H locs hP hD hS => ?_)
    refine lv_if_ne (tgt := 34) hx hb dX6_fill_19 (by decide) (fun c4 => ?_) (fun c4 => ?_)
    · have hF := oF c4 hF
      refine lv_aload_n hx hb dX6_fill_34 rfl (lv_at hl 1 rfl) ?_
      refine lv_iload_n hx hb dX6_fill_35 rfl (lv_at hl 2 rfl) ?_
      refine lv_iconst (v := (5 : Int32)) hx hb dX6_fill_36 (by decide) ?_
      obtain ⟨v5, hv5, hF⟩ := oB hF
      refine call_i (wr := [(aR, .inr (4, [.int rR, .int rD]))]) (wn := [(aC, .inr (0, [.ref aCr])), (aCr, .inl (K 0, 55, .inl row)), (aR, .inr (4, [.int rR, .int rD]))]) (va_runV (As := [.int p2, .int (5 : Int32)]) (rest := []) ⟨hx, hb, hml, hown, hts⟩ (c_X0_of l D K aC aCr row p2 (5 : Int32) v5 hv5 H.size) (cwV 2 hts gX6_fill_X0_of rfl rfl rfl (by decide +kernel) ⟨(Nat.le_of_ble_eq_true rfl), (Nat.le_of_ble_eq_true rfl)⟩) (prV hE hK hP hD hS hA [0, 1] rfl rfl 0 0 rfl rfl rfl) rfl rfl hl.1 rfl (lv_room (Nat.le_of_ble_eq_true rfl)) dX6_fill_37 ⟨(Nat.le_of_ble_eq_true rfl), (Nat.le_of_ble_eq_true rfl)⟩) hP hD hS hA [0, 1] [2] [1, 2, 0] rfl rfl rfl (by decide) rfl rfl (fun H locs hP hD hS => ?_)
      refine lv_istore_n (lv' := [(3, .int v5.1), (0, .ref aR), (1, .ref aC), (2, .int p2)]) hx hb dX6_fill_40 rfl hl (by decide) rfl (fun ls hl => ?_)
      refine lv_iload_n hx hb dX6_fill_41 rfl (lv_at hl 0 rfl) ?_
      refine lv_iconst (v := (3 : Int32)) hx hb dX6_fill_42 (by decide) ?_
      refine lv_icmp_lt (tgt := 54) hx hb dX6_fill_43 (by decide) (fun c6 => ?_) (fun c6 => ?_)
      · have hF := oT c6 hF
        refine lv_aload_n hx hb dX6_fill_54 rfl (lv_at hl 2 rfl) ?_
        refine lv_iconst (v := (3 : Int32)) hx hb dX6_fill_55 (by decide) ?_
        refine lv_iconst (v := (0 : Int32)) hx hb dX6_fill_56 (by decide) ?_
        obtain ⟨v7, hv7, hF⟩ := oB hF
        refine call_v (wr := [(aR, .inr (4, [.int rR, .int rD]))]) (wn := [(aC, .inr (0, [.ref aCr])), (aCr, .inl (K 0, 55, .inl v7)), (aR, .inr (4, [.int rR, .int rD]))]) (va_runV (As := [.int (3 : Int32), .int (0 : Int32)]) (rest := []) ⟨hx, hb, hml, hown, hts⟩ (c_X0_set l D K aC aCr row (3 : Int32) (0 : Int32) v7 hv7 H.size) (cwV 2 hts gX6_fill_X0_set rfl rfl rfl (by decide +kernel) ⟨(Nat.le_of_ble_eq_true rfl), (Nat.le_of_ble_eq_true rfl)⟩) (prV hE hK hP hD hS hA [0, 1] rfl rfl 0 0 rfl rfl rfl) rfl rfl hl.1 rfl (lv_room (Nat.le_of_ble_eq_true rfl)) dX6_fill_57 ⟨(Nat.le_of_ble_eq_true rfl), (Nat.le_of_ble_eq_true rfl)⟩) hP hD hS hA [0, 1] [2] [1, 2, 0] rfl rfl rfl (by decide) rfl rfl (fun H locs hP hD hS => ?_)
        refine lv_aload_n hx hb dX6_fill_60 rfl (lv_at hl 2 rfl) ?_
        refine lv_iload_n hx hb dX6_fill_61 rfl (lv_at hl 3 rfl) ?_
        refine lv_iconst (v := (5 : Int32)) hx hb dX6_fill_62 (by decide) ?_
        refine lv_iconst (v := (1 : Int32)) hx hb dX6_fill_63 (by decide) ?_
        obtain ⟨v8, hv8, hF⟩ := oB hF
        refine call_v (wr := [(aR, .inr (4, [.int rR, .int rD]))]) (wn := [(aC, .inr (0, [.ref aCr])), (aCr, .inl (K 0, 55, .inl v8)), (aR, .inr (4, [.int rR, .int rD]))]) (va_runV (As := [.int p2, .int (5 : Int32), .int (1 : Int32)]) (rest := []) ⟨hx, hb, hml, hown, hts⟩ (c_X0_addOf l D K aC aCr v7 p2 (5 : Int32) (1 : Int32) v8 hv8 H.size) (cwV 3 hts gX6_fill_X0_addOf rfl rfl rfl (by decide +kernel) ⟨(Nat.le_of_ble_eq_true rfl), (Nat.le_of_ble_eq_true rfl)⟩) (prV hE hK hP hD hS hA [0, 1] rfl rfl 0 0 rfl rfl rfl) rfl rfl hl.1 rfl (lv_room (Nat.le_of_ble_eq_true rfl)) dX6_fill_64 ⟨(Nat.le_of_ble_eq_true rfl), (Nat.le_of_ble_eq_true rfl)⟩) hP hD hS hA [0, 1] [2] [1, 2, 0] rfl rfl rfl (by decide) rfl rfl (fun H locs hP hD hS => ?_)
        refine lv_iload_n hx hb dX6_fill_67 rfl (lv_at hl 0 rfl) ?_
        refine lv_iconst (v := (1 : Int32)) hx hb dX6_fill_68 (by decide) ?_
        refine lv_iadd hx hb dX6_fill_69 ?_
        exact fin_i (u := (v5.1 + (1 : Int32), (v8, rR, rD))) hF hx hb hr hlocks hK hP hD hS (Nat.le_of_ble_eq_true rfl) (Nat.le_of_ble_eq_true rfl) dX6_fill_70
      · have hF := oF c6 hF
        refine lv_aload_n hx hb dX6_fill_46 rfl (lv_at hl 1 rfl) ?_
        refine lv_bipush (v := (11 : Int32)) hx hb dX6_fill_47 (by decide) ?_
        refine lv_iload_n hx hb dX6_fill_49 rfl (lv_at hl 0 rfl) ?_
        obtain ⟨v9, hv9, hF⟩ := oB hF
        refine call_i (wr := [(aC, .inr (0, [.ref aCr])), (aCr, .inl (K 0, 55, .inl row))]) (wn := [(aC, .inr (0, [.ref aCr])), (aCr, .inl (K 0, 55, .inl row)), (aR, .inr (4, [.int v9.2.1, .int v9.2.2]))]) (va_runV (As := [.int (11 : Int32), .int v5.1]) (rest := []) ⟨hx, hb, hml, hown, hts⟩ (c_X6_refuse l D K aR rR rD (11 : Int32) v5.1 v9 hv9 H.size) (cwV 2 hts gX6_fill_X6_refuse rfl rfl rfl (by decide +kernel) ⟨(Nat.le_of_ble_eq_true rfl), (Nat.le_of_ble_eq_true rfl)⟩) (prV hE hK hP hD hS hA [2] rfl rfl 4 2 rfl rfl rfl) rfl rfl hl.1 rfl (lv_room (Nat.le_of_ble_eq_true rfl)) dX6_fill_50 ⟨(Nat.le_of_ble_eq_true rfl), (Nat.le_of_ble_eq_true rfl)⟩) hP hD hS hA [2] [0, 1] [0, 1, 2] rfl rfl rfl (by decide) rfl rfl (fun H locs hP hD hS => ?_)
        exact fin_i (u := (v9.1, (row, v9.2.1, v9.2.2))) hF hx hb hr hlocks hK hP hD hS (Nat.le_of_ble_eq_true rfl) (Nat.le_of_ble_eq_true rfl) dX6_fill_53
    · have hF := oT c4 hF
      refine lv_aload_n hx hb dX6_fill_22 rfl (lv_at hl 0 rfl) ?_
      refine lv_bipush (v := (10 : Int32)) hx hb dX6_fill_23 (by decide) ?_
      refine lv_aload_n hx hb dX6_fill_25 rfl (lv_at hl 1 rfl) ?_
      refine lv_iconst (v := (2 : Int32)) hx hb dX6_fill_26 (by decide) ?_
      obtain ⟨v10, hv10, hF⟩ := oB hF
      refine call_i (wr := [(aR, .inr (4, [.int rR, .int rD]))]) (wn := [(aC, .inr (0, [.ref aCr])), (aCr, .inl (K 0, 55, .inl row)), (aR, .inr (4, [.int rR, .int rD]))]) (va_runV (As := [.int (2 : Int32)]) (rest := [.int (10 : Int32), .ref aR]) ⟨hx, hb, hml, hown, hts⟩ (c_X0_get l D K aC aCr row (2 : Int32) v10 hv10 H.size) (cwV 1 hts gX6_fill_X0_get rfl rfl rfl (by decide +kernel) ⟨(Nat.le_of_ble_eq_true rfl), (Nat.le_of_ble_eq_true rfl)⟩) (prV hE hK hP hD hS hA [0, 1] rfl rfl 0 0 rfl rfl rfl) rfl rfl hl.1 rfl (lv_room (Nat.le_of_ble_eq_true rfl)) dX6_fill_27 ⟨(Nat.le_of_ble_eq_true rfl), (Nat.le_of_ble_eq_true rfl)⟩) hP hD hS hA [0, 1] [2] [1, 2, 0] rfl rfl rfl (by decide) rfl rfl (fun H locs hP hD hS => ?_)
      obtain ⟨v11, hv11, hF⟩ := oB hF
      refine call_i (wr := [(aC, .inr (0, [.ref aCr])), (aCr, .inl (K 0, 55, .inl row))]) (wn := [(aC, .inr (0, [.ref aCr])), (aCr, .inl (K 0, 55, .inl row)), (aR, .inr (4, [.int v11.2.1, .int v11.2.2]))]) (va_runV (As := [.int (10 : Int32), .int v10.1]) (rest := []) ⟨hx, hb, hml, hown, hts⟩ (c_X6_refuse l D K aR rR rD (10 : Int32) v10.1 v11 hv11 H.size) (cwV 2 hts gX6_fill_X6_refuse rfl rfl rfl (by decide +kernel) ⟨(Nat.le_of_ble_eq_true rfl), (Nat.le_of_ble_eq_true rfl)⟩) (prV hE hK hP hD hS hA [2] rfl rfl 4 2 rfl rfl rfl) rfl rfl hl.1 rfl (lv_room (Nat.le_of_ble_eq_true rfl)) dX6_fill_30 ⟨(Nat.le_of_ble_eq_true rfl), (Nat.le_of_ble_eq_true rfl)⟩) hP hD hS hA [2] [0, 1] [0, 1, 2] rfl rfl rfl (by decide) rfl rfl (fun H locs hP hD hS => ?_)
      exact fin_i (u := (v11.1, (row, v11.2.1, v11.2.2))) hF hx hb hr hlocks hK hP hD hS (Nat.le_of_ble_eq_true rfl) (Nat.le_of_ble_eq_true rfl) dX6_fill_33
  · have hF := oT c2 hF
    refine lv_aload_n hx hb dX6_fill_8 rfl (lv_at hl 0 rfl) ?_
    refine lv_aload_n hx hb dX6_fill_9 rfl (lv_at hl 1 rfl) ?_
    obtain ⟨v12, hv12, hF⟩ := oB hF
    refine call_i (wr := []) (wn := [(aC, .inr (0, [.ref aCr])), (aCr, .inl (K 0, 55, .inl row)), (aR, .inr (4, [.int v12.2.1, .int v12.2.2]))]) (va_runV (As := [.ref aC]) (rest := []) ⟨hx, hb, hml, hown, hts⟩ (c_X6_refuseStranger l D K aC aCr aR row rR rD v12 hv12 H.size) (cwV 1 hts gX6_fill_X6_refuseStranger rfl rfl rfl (by decide +kernel) ⟨(Nat.le_of_ble_eq_true rfl), (Nat.le_of_ble_eq_true rfl)⟩) (prV hE hK hP hD hS hA [0, 1, 2] rfl rfl 4 2 rfl rfl rfl) rfl rfl hl.1 rfl (lv_room (Nat.le_of_ble_eq_true rfl)) dX6_fill_10 ⟨(Nat.le_of_ble_eq_true rfl), (Nat.le_of_ble_eq_true rfl)⟩) hP hD hS hA [0, 1, 2] [] [0, 1, 2] rfl rfl rfl (by decide) rfl rfl (fun H locs hP hD hS => ?_)
    exact fin_i (u := (v12.1, (row, v12.2.1, v12.2.2))) hF hx hb hr hlocks hK hP hD hS (Nat.le_of_ble_eq_true rfl) (Nat.le_of_ble_eq_true rfl) dX6_fill_13
abbrev RM_X6_uncork : Room := { frames := 3, cells := 0, slots := 0, locals := 65 }
abbrev MC_X6_uncork : Nat := 0
abbrev MS_X6_uncork : Nat := 0
abbrev wf_X6_uncork (K : Nat → ClassId) (aC : Nat) (aCr : Nat) (aR : Nat)  (v : Int32 × (Nat → Int32) × Int32 × Int32) : va_W := [(aC, .inr (0, [.ref aCr])), (aCr, .inl (K 0, 55, .inl v.2.1)), (aR, .inr (4, [.int v.2.2.1, .int v.2.2.2]))]
set_option maxHeartbeats 4000000 in
set_option maxRecDepth 100000 in
theorem c_X6_uncork (l : Launch) (D : va_G) (K : Nat → ClassId) (aC : Nat) (aCr : Nat) (aR : Nat) (row : Nat → Int32) (rR : Int32) (rD : Int32) (p2 : Int32) (v : Int32 × (Nat → Int32) × Int32 × Int32) (hF : f_X6_uncork row rR rD p2 = some v) (sz : Nat) :
    (Met l yX6_uncork wsX6_uncork RM_X6_uncork (PC D (TY K) [(aC, .inr (0, [.ref aCr])), (aCr, .inl (K 0, 55, .inl row)), (aR, .inr (4, [.int rR, .int rD]))] [.ref aR, .ref aC, .int p2] sz) (QI D (TY K) (wf_X6_uncork K aC aCr aR) v (va_A [(aC, .inr (0, [.ref aCr])), (aCr, .inl (K 0, 55, .inl row)), (aR, .inr (4, [.int rR, .int rD]))] sz)) MC_X6_uncork MS_X6_uncork (va_A [(aC, .inr (0, [.ref aCr])), (aCr, .inl (K 0, 55, .inl row)), (aR, .inr (4, [.int rR, .int rD]))] sz)) := by
  refine pro (Qf := fun A => QI D (TY K) (wf_X6_uncork K aC aCr aR) v A) (cc := cX6_uncork) (maxL := 4) (ret := (some .int)) (by decide +kernel) rfl (Nat.le_of_ble_eq_true rfl) ?_
  intro p e s m args below meth c hx hb hr hts hown hlocks hml hini hK A hA hE hP hD hS ls hl
  have hown : s.vm.findClass RX6 = some m.cls := hown
  have hl : lv_has ls 4 [(0, .ref aR), (1, .ref aC), (2, .int p2)] := hl
  rw [f_X6_uncork] at hF
  refine lv_aload_n hx hb dX6_uncork_0 rfl (lv_at hl 1 rfl) ?_
  refine lv_iload_n hx hb dX6_uncork_1 rfl (lv_at hl 2 rfl) ?_
  obtain ⟨v1, hv1, hF⟩ := oB hF
  refine call_i (wr := [(aR, .inr (4, [.int rR, .int rD]))]) (wn := [(aC, .inr (0, [.ref aCr])), (aCr, .inl (K 0, 55, .inl row)), (aR, .inr (4, [.int rR, .int rD]))]) (va_runV (As := [.int p2]) (rest := []) ⟨hx, hb, hml, hown, hts⟩ (c_X0_isMember l D K aC aCr row p2 v1 hv1 s.heap.size) (cwV 1 hts gX6_uncork_X0_isMember rfl rfl rfl (by decide +kernel) ⟨(Nat.le_of_ble_eq_true rfl), (Nat.le_of_ble_eq_true rfl)⟩) (prV hE hK hP hD hS hA [0, 1] rfl rfl 0 0 rfl rfl rfl) rfl rfl hl.1 rfl (lv_room (Nat.le_of_ble_eq_true rfl)) dX6_uncork_2 ⟨(Nat.le_of_ble_eq_true rfl), (Nat.le_of_ble_eq_true rfl)⟩) hP hD hS hA [0, 1] [2] [1, 2, 0] rfl rfl rfl (by decide) rfl rfl (fun H locs hP hD hS => ?_)
  refine lv_if_ne (tgt := 14) hx hb dX6_uncork_5 (by decide) (fun c2 => ?_) (fun c2 => ?_)
  · have hF := oF c2 hF
    refine lv_aload_n hx hb dX6_uncork_14 rfl (lv_at hl 1 rfl) ?_
    refine lv_iload_n hx hb dX6_uncork_15 rfl (lv_at hl 2 rfl) ?_
    refine lv_iconst (v := (5 : Int32)) hx hb dX6_uncork_16 (by decide) ?_
    obtain ⟨v3, hv3, hF⟩ := oB hF
    refine call_i (wr := [(aR, .inr (4, [.int rR, .int rD]))]) (wn := [(aC, .inr (0, [.ref aCr])), (aCr, .inl (K 0, 55, .inl row)), (aR, .inr (4, [.int rR, .int rD]))]) (va_runV (As := [.int p2, .int (5 : Int32)]) (rest := []) ⟨hx, hb, hml, hown, hts⟩ (c_X0_of l D K aC aCr row p2 (5 : Int32) v3 hv3 H.size) (cwV 2 hts gX6_uncork_X0_of rfl rfl rfl (by decide +kernel) ⟨(Nat.le_of_ble_eq_true rfl), (Nat.le_of_ble_eq_true rfl)⟩) (prV hE hK hP hD hS hA [0, 1] rfl rfl 0 0 rfl rfl rfl) rfl rfl hl.1 rfl (lv_room (Nat.le_of_ble_eq_true rfl)) dX6_uncork_17 ⟨(Nat.le_of_ble_eq_true rfl), (Nat.le_of_ble_eq_true rfl)⟩) hP hD hS hA [0, 1] [2] [1, 2, 0] rfl rfl rfl (by decide) rfl rfl (fun H locs hP hD hS => ?_)
    refine lv_if_ne (tgt := 31) hx hb dX6_uncork_20 (by decide) (fun c4 => ?_) (fun c4 => ?_)
    · have hF := oF c4 hF
      refine lv_aload_n hx hb dX6_uncork_31 rfl (lv_at hl 1 rfl) ?_
      refine lv_iconst (v := (1 : Int32)) hx hb dX6_uncork_32 (by decide) ?_
      obtain ⟨v5, hv5, hF⟩ := oB hF
      refine call_i (wr := [(aR, .inr (4, [.int rR, .int rD]))]) (wn := [(aC, .inr (0, [.ref aCr])), (aCr, .inl (K 0, 55, .inl row)), (aR, .inr (4, [.int rR, .int rD]))]) (va_runV (As := [.int (1 : Int32)]) (rest := []) ⟨hx, hb, hml, hown, hts⟩ (c_X0_get l D K aC aCr row (1 : Int32) v5 hv5 H.size) (cwV 1 hts gX6_uncork_X0_get rfl rfl rfl (by decide +kernel) ⟨(Nat.le_of_ble_eq_true rfl), (Nat.le_of_ble_eq_true rfl)⟩) (prV hE hK hP hD hS hA [0, 1] rfl rfl 0 0 rfl rfl rfl) rfl rfl hl.1 rfl (lv_room (Nat.le_of_ble_eq_true rfl)) dX6_uncork_33 ⟨(Nat.le_of_ble_eq_true rfl), (Nat.le_of_ble_eq_true rfl)⟩) hP hD hS hA [0, 1] [2] [1, 2, 0] rfl rfl rfl (by decide) rfl rfl (fun H locs hP hD hS => ?_)
      refine lv_bipush (v := (-15 : Int32)) hx hb dX6_uncork_36 (by decide) ?_
      refine lv_iadd hx hb dX6_uncork_38 ?_
      refine lv_istore_n (lv' := [(3, .int (v5.1 + (-15 : Int32))), (0, .ref aR), (1, .ref aC), (2, .int p2)]) hx hb dX6_uncork_39 rfl hl (by decide) rfl (fun ls hl => ?_)
      refine lv_iload_n hx hb dX6_uncork_40 rfl (lv_at hl 0 rfl) ?_
      obtain ⟨v6, hv6, hF⟩ := oB hF
      refine call_i (wr := [(aC, .inr (0, [.ref aCr])), (aCr, .inl (K 0, 55, .inl row)), (aR, .inr (4, [.int rR, .int rD]))]) (wn := [(aC, .inr (0, [.ref aCr])), (aCr, .inl (K 0, 55, .inl row)), (aR, .inr (4, [.int rR, .int rD]))]) (va_runSN (As := [.int (v5.1 + (-15 : Int32))]) (rest := []) ⟨hx, hb, hml, hown, hts⟩ (c_X7_isPressure l D K (v5.1 + (-15 : Int32)) v6 hv6 H.size) ⟨va_cnB 1 hts gX6_uncork_X7_isPressure_n115 rfl rfl rfl (hE.2.2.1 _ (List.mem_of_getElem? (i := 8) rfl)) (hts (.initialized RX7) (List.mem_of_getElem? (i := 27) rfl)) (by decide +kernel) ⟨(Nat.le_of_ble_eq_true rfl), (Nat.le_of_ble_eq_true rfl)⟩, (hts (.static yX7_isPressure) (List.mem_of_getElem? (i := 26) rfl)), trivial⟩ (prS hE hK hP hD hS hA [] rfl rfl) rfl rfl hl.1 rfl (lv_room (Nat.le_of_ble_eq_true rfl)) dX6_uncork_41 ⟨(Nat.le_of_ble_eq_true rfl), (Nat.le_of_ble_eq_true rfl)⟩) hP hD hS hA [] [0, 1, 2] [0, 1, 2] rfl rfl rfl (by decide) rfl rfl (fun H locs hP hD hS => ?_)
      refine lv_if_ne (tgt := 55) hx hb dX6_uncork_44 (by decide) (fun c7 => ?_) (fun c7 => ?_)
      · have hF := oF c7 hF
        refine lv_aload_n hx hb dX6_uncork_55 rfl (lv_at hl 2 rfl) ?_
        refine lv_bipush (v := (-15 : Int32)) hx hb dX6_uncork_56 (by decide) ?_
        obtain ⟨v8, hv8, hF⟩ := oB hF
        refine call_v (wr := [(aR, .inr (4, [.int rR, .int rD]))]) (wn := [(aC, .inr (0, [.ref aCr])), (aCr, .inl (K 0, 55, .inl v8)), (aR, .inr (4, [.int rR, .int rD]))]) (va_runV (As := [.int (-15 : Int32)]) (rest := []) ⟨hx, hb, hml, hown, hts⟩ (c_X0_changePressure l D K aC aCr row (-15 : Int32) v8 hv8 H.size) (cwV 1 hts gX6_uncork_X0_changePressure rfl rfl rfl (by decide +kernel) ⟨(Nat.le_of_ble_eq_true rfl), (Nat.le_of_ble_eq_true rfl)⟩) (prV hE hK hP hD hS hA [0, 1] rfl rfl 0 0 rfl rfl rfl) rfl rfl hl.1 rfl (lv_room (Nat.le_of_ble_eq_true rfl)) dX6_uncork_58 ⟨(Nat.le_of_ble_eq_true rfl), (Nat.le_of_ble_eq_true rfl)⟩) hP hD hS hA [0, 1] [2] [1, 2, 0] rfl rfl rfl (by decide) rfl rfl (fun H locs hP hD hS => ?_)
        refine lv_aload_n hx hb dX6_uncork_61 rfl (lv_at hl 2 rfl) ?_
        refine lv_iload_n hx hb dX6_uncork_62 rfl (lv_at hl 3 rfl) ?_
        refine lv_iconst (v := (5 : Int32)) hx hb dX6_uncork_63 (by decide) ?_
        refine lv_iconst (v := (-1 : Int32)) hx hb dX6_uncork_64 (by decide) ?_
        obtain ⟨v9, hv9, hF⟩ := oB hF
        refine call_v (wr := [(aR, .inr (4, [.int rR, .int rD]))]) (wn := [(aC, .inr (0, [.ref aCr])), (aCr, .inl (K 0, 55, .inl v9)), (aR, .inr (4, [.int rR, .int rD]))]) (va_runV (As := [.int p2, .int (5 : Int32), .int (-1 : Int32)]) (rest := []) ⟨hx, hb, hml, hown, hts⟩ (c_X0_addOf l D K aC aCr v8 p2 (5 : Int32) (-1 : Int32) v9 hv9 H.size) (cwV 3 hts gX6_uncork_X0_addOf rfl rfl rfl (by decide +kernel) ⟨(Nat.le_of_ble_eq_true rfl), (Nat.le_of_ble_eq_true rfl)⟩) (prV hE hK hP hD hS hA [0, 1] rfl rfl 0 0 rfl rfl rfl) rfl rfl hl.1 rfl (lv_room (Nat.le_of_ble_eq_true rfl)) dX6_uncork_65 ⟨(Nat.le_of_ble_eq_true rfl), (Nat.le_of_ble_eq_true rfl)⟩) hP hD hS hA [0, 1] [2] [1, 2, 0] rfl rfl rfl (by decide) rfl rfl (fun H locs hP hD hS => ?_)
        refine lv_aload_n hx hb dX6_uncork_68 rfl (lv_at hl 2 rfl) ?_
        refine lv_bipush (v := (6 : Int32)) hx hb dX6_uncork_69 (by decide) ?_
        refine lv_iconst (v := (1 : Int32)) hx hb dX6_uncork_71 (by decide) ?_
        obtain ⟨v10, hv10, hF⟩ := oB hF
        refine call_v (wr := [(aR, .inr (4, [.int rR, .int rD]))]) (wn := [(aC, .inr (0, [.ref aCr])), (aCr, .inl (K 0, 55, .inl v10)), (aR, .inr (4, [.int rR, .int rD]))]) (va_runV (As := [.int (6 : Int32), .int (1 : Int32)]) (rest := []) ⟨hx, hb, hml, hown, hts⟩ (c_X0_add l D K aC aCr v9 (6 : Int32) (1 : Int32) v10 hv10 H.size) (cwV 2 hts gX6_uncork_X0_add rfl rfl rfl (by decide +kernel) ⟨(Nat.le_of_ble_eq_true rfl), (Nat.le_of_ble_eq_true rfl)⟩) (prV hE hK hP hD hS hA [0, 1] rfl rfl 0 0 rfl rfl rfl) rfl rfl hl.1 rfl (lv_room (Nat.le_of_ble_eq_true rfl)) dX6_uncork_72 ⟨(Nat.le_of_ble_eq_true rfl), (Nat.le_of_ble_eq_true rfl)⟩) hP hD hS hA [0, 1] [2] [1, 2, 0] rfl rfl rfl (by decide) rfl rfl (fun H locs hP hD hS => ?_)
        refine lv_iload_n hx hb dX6_uncork_75 rfl (lv_at hl 0 rfl) ?_
        exact fin_i (u := (v5.1 + (-15 : Int32), (v10, rR, rD))) hF hx hb hr hlocks hK hP hD hS (Nat.le_of_ble_eq_true rfl) (Nat.le_of_ble_eq_true rfl) dX6_uncork_76
      · have hF := oT c7 hF
        refine lv_aload_n hx hb dX6_uncork_47 rfl (lv_at hl 1 rfl) ?_
        refine lv_bipush (v := (13 : Int32)) hx hb dX6_uncork_48 (by decide) ?_
        refine lv_iload_n hx hb dX6_uncork_50 rfl (lv_at hl 0 rfl) ?_
        obtain ⟨v11, hv11, hF⟩ := oB hF
        refine call_i (wr := [(aC, .inr (0, [.ref aCr])), (aCr, .inl (K 0, 55, .inl row))]) (wn := [(aC, .inr (0, [.ref aCr])), (aCr, .inl (K 0, 55, .inl row)), (aR, .inr (4, [.int v11.2.1, .int v11.2.2]))]) (va_runV (As := [.int (13 : Int32), .int (v5.1 + (-15 : Int32))]) (rest := []) ⟨hx, hb, hml, hown, hts⟩ (c_X6_refuse l D K aR rR rD (13 : Int32) (v5.1 + (-15 : Int32)) v11 hv11 H.size) (cwV 2 hts gX6_uncork_X6_refuse rfl rfl rfl (by decide +kernel) ⟨(Nat.le_of_ble_eq_true rfl), (Nat.le_of_ble_eq_true rfl)⟩) (prV hE hK hP hD hS hA [2] rfl rfl 4 2 rfl rfl rfl) rfl rfl hl.1 rfl (lv_room (Nat.le_of_ble_eq_true rfl)) dX6_uncork_51 ⟨(Nat.le_of_ble_eq_true rfl), (Nat.le_of_ble_eq_true rfl)⟩) hP hD hS hA [2] [0, 1] [0, 1, 2] rfl rfl rfl (by decide) rfl rfl (fun H locs hP hD hS => ?_)
        exact fin_i (u := (v11.1, (row, v11.2.1, v11.2.2))) hF hx hb hr hlocks hK hP hD hS (Nat.le_of_ble_eq_true rfl) (Nat.le_of_ble_eq_true rfl) dX6_uncork_54
    · have hF := oT c4 hF
      refine lv_aload_n hx hb dX6_uncork_23 rfl (lv_at hl 0 rfl) ?_
      refine lv_bipush (v := (12 : Int32)) hx hb dX6_uncork_24 (by decide) ?_
      refine lv_iconst (v := (0 : Int32)) hx hb dX6_uncork_26 (by decide) ?_
      obtain ⟨v12, hv12, hF⟩ := oB hF
      refine call_i (wr := [(aC, .inr (0, [.ref aCr])), (aCr, .inl (K 0, 55, .inl row))]) (wn := [(aC, .inr (0, [.ref aCr])), (aCr, .inl (K 0, 55, .inl row)), (aR, .inr (4, [.int v12.2.1, .int v12.2.2]))]) (va_runV (As := [.int (12 : Int32), .int (0 : Int32)]) (rest := []) ⟨hx, hb, hml, hown, hts⟩ (c_X6_refuse l D K aR rR rD (12 : Int32) (0 : Int32) v12 hv12 H.size) (cwV 2 hts gX6_uncork_X6_refuse rfl rfl rfl (by decide +kernel) ⟨(Nat.le_of_ble_eq_true rfl), (Nat.le_of_ble_eq_true rfl)⟩) (prV hE hK hP hD hS hA [2] rfl rfl 4 2 rfl rfl rfl) rfl rfl hl.1 rfl (lv_room (Nat.le_of_ble_eq_true rfl)) dX6_uncork_27 ⟨(Nat.le_of_ble_eq_true rfl), (Nat.le_of_ble_eq_true rfl)⟩) hP hD hS hA [2] [0, 1] [0, 1, 2] rfl rfl rfl (by decide) rfl rfl (fun H locs hP hD hS => ?_)
      exact fin_i (u := (v12.1, (row, v12.2.1, v12.2.2))) hF hx hb hr hlocks hK hP hD hS (Nat.le_of_ble_eq_true rfl) (Nat.le_of_ble_eq_true rfl) dX6_uncork_30
  · have hF := oT c2 hF
    refine lv_aload_n hx hb dX6_uncork_8 rfl (lv_at hl 0 rfl) ?_
    refine lv_aload_n hx hb dX6_uncork_9 rfl (lv_at hl 1 rfl) ?_
    obtain ⟨v13, hv13, hF⟩ := oB hF
    refine call_i (wr := []) (wn := [(aC, .inr (0, [.ref aCr])), (aCr, .inl (K 0, 55, .inl row)), (aR, .inr (4, [.int v13.2.1, .int v13.2.2]))]) (va_runV (As := [.ref aC]) (rest := []) ⟨hx, hb, hml, hown, hts⟩ (c_X6_refuseStranger l D K aC aCr aR row rR rD v13 hv13 H.size) (cwV 1 hts gX6_uncork_X6_refuseStranger rfl rfl rfl (by decide +kernel) ⟨(Nat.le_of_ble_eq_true rfl), (Nat.le_of_ble_eq_true rfl)⟩) (prV hE hK hP hD hS hA [0, 1, 2] rfl rfl 4 2 rfl rfl rfl) rfl rfl hl.1 rfl (lv_room (Nat.le_of_ble_eq_true rfl)) dX6_uncork_10 ⟨(Nat.le_of_ble_eq_true rfl), (Nat.le_of_ble_eq_true rfl)⟩) hP hD hS hA [0, 1, 2] [] [0, 1, 2] rfl rfl rfl (by decide) rfl rfl (fun H locs hP hD hS => ?_)
    exact fin_i (u := (v13.1, (row, v13.2.1, v13.2.2))) hF hx hb hr hlocks hK hP hD hS (Nat.le_of_ble_eq_true rfl) (Nat.le_of_ble_eq_true rfl) dX6_uncork_13
abbrev RM_X6_payWinner : Room := { frames := 3, cells := 0, slots := 0, locals := 68 }
abbrev MC_X6_payWinner : Nat := 0
abbrev MS_X6_payWinner : Nat := 0
abbrev wf_X6_payWinner (K : Nat → ClassId) (aC : Nat) (aCr : Nat)  (v : (Nat → Int32)) : va_W := [(aC, .inr (0, [.ref aCr])), (aCr, .inl (K 0, 55, .inl v))]
set_option maxHeartbeats 4000000 in
set_option maxRecDepth 100000 in
theorem c_X6_payWinner (l : Launch) (D : va_G) (K : Nat → ClassId) (aC : Nat) (aCr : Nat) (row : Nat → Int32) (p2 : Int32) (p3 : Int32) (v : (Nat → Int32)) (hF : f_X6_payWinner row p2 p3 = some v) (sz : Nat) :
    (Met l yX6_payWinner wsX6_payWinner RM_X6_payWinner (PC D (TY K) [(aC, .inr (0, [.ref aCr])), (aCr, .inl (K 0, 55, .inl row))] [.ref aC, .int p2, .int p3] sz) (QV D (TY K) (wf_X6_payWinner K aC aCr) v (va_A [(aC, .inr (0, [.ref aCr])), (aCr, .inl (K 0, 55, .inl row))] sz)) MC_X6_payWinner MS_X6_payWinner (va_A [(aC, .inr (0, [.ref aCr])), (aCr, .inl (K 0, 55, .inl row))] sz)) := by
  refine pro (Qf := fun A => QV D (TY K) (wf_X6_payWinner K aC aCr) v A) (cc := cX6_payWinner) (maxL := 3) (ret := none) (by decide +kernel) rfl (Nat.le_of_ble_eq_true rfl) ?_
  intro p e s m args below meth c hx hb hr hts hown hlocks hml hini hK A hA hE hP hD hS ls hl
  have hown : s.vm.findClass RX6 = some m.cls := hown
  have hl : lv_has ls 3 [(0, .ref aC), (1, .int p2), (2, .int p3)] := hl
  rw [f_X6_payWinner] at hF
  refine lv_aload_n hx hb dX6_payWinner_0 rfl (lv_at hl 0 rfl) ?_
  refine lv_iload_n hx hb dX6_payWinner_1 rfl (lv_at hl 1 rfl) ?_
  refine lv_iload_n hx hb dX6_payWinner_2 rfl (lv_at hl 2 rfl) ?_
  refine lv_ineg hx hb dX6_payWinner_3 ?_
  obtain ⟨v1, hv1, hF⟩ := oB hF
  refine call_v (wr := []) (wn := [(aC, .inr (0, [.ref aCr])), (aCr, .inl (K 0, 55, .inl v1))]) (va_runV (As := [.int p2, .int (-p3)]) (rest := []) ⟨hx, hb, hml, hown, hts⟩ (c_X0_payIntoPot l D K aC aCr row p2 (-p3) v1 hv1 s.heap.size) (cwV 2 hts gX6_payWinner_X0_payIntoPot rfl rfl rfl (by decide +kernel) ⟨(Nat.le_of_ble_eq_true rfl), (Nat.le_of_ble_eq_true rfl)⟩) (prV hE hK hP hD hS hA [0, 1] rfl rfl 0 0 rfl rfl rfl) rfl rfl hl.1 rfl (lv_room (Nat.le_of_ble_eq_true rfl)) dX6_payWinner_4 ⟨(Nat.le_of_ble_eq_true rfl), (Nat.le_of_ble_eq_true rfl)⟩) hP hD hS hA [0, 1] [] [0, 1] rfl rfl rfl (by decide) rfl rfl (fun H locs hP hD hS => ?_)
  refine lv_aload_n hx hb dX6_payWinner_7 rfl (lv_at hl 0 rfl) ?_
  refine lv_iload_n hx hb dX6_payWinner_8 rfl (lv_at hl 1 rfl) ?_
  refine lv_bipush (v := (6 : Int32)) hx hb dX6_payWinner_9 (by decide) ?_
  refine lv_iconst (v := (1 : Int32)) hx hb dX6_payWinner_11 (by decide) ?_
  obtain ⟨v2, hv2, hF⟩ := oB hF
  refine call_v (wr := []) (wn := [(aC, .inr (0, [.ref aCr])), (aCr, .inl (K 0, 55, .inl v2))]) (va_runV (As := [.int p2, .int (6 : Int32), .int (1 : Int32)]) (rest := []) ⟨hx, hb, hml, hown, hts⟩ (c_X0_addOf l D K aC aCr v1 p2 (6 : Int32) (1 : Int32) v2 hv2 H.size) (cwV 3 hts gX6_payWinner_X0_addOf rfl rfl rfl (by decide +kernel) ⟨(Nat.le_of_ble_eq_true rfl), (Nat.le_of_ble_eq_true rfl)⟩) (prV hE hK hP hD hS hA [0, 1] rfl rfl 0 0 rfl rfl rfl) rfl rfl hl.1 rfl (lv_room (Nat.le_of_ble_eq_true rfl)) dX6_payWinner_12 ⟨(Nat.le_of_ble_eq_true rfl), (Nat.le_of_ble_eq_true rfl)⟩) hP hD hS hA [0, 1] [] [0, 1] rfl rfl rfl (by decide) rfl rfl (fun H locs hP hD hS => ?_)
  refine lv_aload_n hx hb dX6_payWinner_15 rfl (lv_at hl 0 rfl) ?_
  refine lv_bipush (v := (9 : Int32)) hx hb dX6_payWinner_16 (by decide) ?_
  refine lv_iload_n hx hb dX6_payWinner_18 rfl (lv_at hl 2 rfl) ?_
  obtain ⟨v3, hv3, hF⟩ := oB hF
  refine call_v (wr := []) (wn := [(aC, .inr (0, [.ref aCr])), (aCr, .inl (K 0, 55, .inl v3))]) (va_runV (As := [.int (9 : Int32), .int p3]) (rest := []) ⟨hx, hb, hml, hown, hts⟩ (c_X0_add l D K aC aCr v2 (9 : Int32) p3 v3 hv3 H.size) (cwV 2 hts gX6_payWinner_X0_add rfl rfl rfl (by decide +kernel) ⟨(Nat.le_of_ble_eq_true rfl), (Nat.le_of_ble_eq_true rfl)⟩) (prV hE hK hP hD hS hA [0, 1] rfl rfl 0 0 rfl rfl rfl) rfl rfl hl.1 rfl (lv_room (Nat.le_of_ble_eq_true rfl)) dX6_payWinner_19 ⟨(Nat.le_of_ble_eq_true rfl), (Nat.le_of_ble_eq_true rfl)⟩) hP hD hS hA [0, 1] [] [0, 1] rfl rfl rfl (by decide) rfl rfl (fun H locs hP hD hS => ?_)
  exact fin_v (u := v3) hF hx hb hr hlocks hK hP hD hS (Nat.le_of_ble_eq_true rfl) (Nat.le_of_ble_eq_true rfl) dX6_payWinner_22
abbrev RM_X6_readNeedles : Room := { frames := 4, cells := 0, slots := 0, locals := 92 }
abbrev MC_X6_readNeedles : Nat := 0
abbrev MS_X6_readNeedles : Nat := 0
abbrev wf_X6_readNeedles (K : Nat → ClassId) (aC : Nat) (aCr : Nat) (aR : Nat)  (v : Int32 × (Nat → Int32) × Int32 × Int32) : va_W := [(aC, .inr (0, [.ref aCr])), (aCr, .inl (K 0, 55, .inl v.2.1)), (aR, .inr (4, [.int v.2.2.1, .int v.2.2.2]))]
set_option maxHeartbeats 4000000 in
set_option maxRecDepth 100000 in
theorem c_X6_readNeedles (l : Launch) (D : va_G) (K : Nat → ClassId) (aC : Nat) (aCr : Nat) (aR : Nat) (row : Nat → Int32) (rR : Int32) (rD : Int32)  (v : Int32 × (Nat → Int32) × Int32 × Int32) (hF : f_X6_readNeedles row rR rD = some v) (sz : Nat) :
    (Met l yX6_readNeedles wsX6_readNeedles RM_X6_readNeedles (PC D (TY K) [(aC, .inr (0, [.ref aCr])), (aCr, .inl (K 0, 55, .inl row)), (aR, .inr (4, [.int rR, .int rD]))] [.ref aR, .ref aC] sz) (QI D (TY K) (wf_X6_readNeedles K aC aCr aR) v (va_A [(aC, .inr (0, [.ref aCr])), (aCr, .inl (K 0, 55, .inl row)), (aR, .inr (4, [.int rR, .int rD]))] sz)) MC_X6_readNeedles MS_X6_readNeedles (va_A [(aC, .inr (0, [.ref aCr])), (aCr, .inl (K 0, 55, .inl row)), (aR, .inr (4, [.int rR, .int rD]))] sz)) := by
  refine pro (Qf := fun A => QI D (TY K) (wf_X6_readNeedles K aC aCr aR) v A) (cc := cX6_readNeedles) (maxL := 5) (ret := (some .int)) (by decide +kernel) rfl (Nat.le_of_ble_eq_true rfl) ?_
  intro p e s m args below meth c hx hb hr hts hown hlocks hml hini hK A hA hE hP hD hS ls hl
  have hown : s.vm.findClass RX6 = some m.cls := hown
  have hl : lv_has ls 5 [(0, .ref aR), (1, .ref aC)] := hl
  have loop_39 : ∀ (y39_2 : Int32) (y39_3 : Int32) (rR_39 : Int32) (rD_39 : Int32) (n : Nat) (y39_4 : Int32) (row_39 : Nat → Int32), f_X6_readNeedles_L39 y39_2 y39_3 rR_39 rD_39 n y39_4 row_39 = some v → ∀ (H : Heap) (locs : List Loc), va_P D vwC7 [(aC, .inr (0, [.ref aCr])), (aCr, .inl (K 0, 55, .inl row_39)), (aR, .inr (4, [.int rR_39, .int rD_39]))] H → va_D A [(aC, .inr (0, [.ref aCr])), (aCr, .inl (K 0, 55, .inl row_39)), (aR, .inr (4, [.int rR_39, .int rD_39]))] → va_S A s.heap H locs → ∀ ls : Array Slot, lv_has ls 5 [(0, .ref aR), (1, .ref aC), (2, .int y39_2), (3, .int y39_3), (4, .int y39_4)] → W p l e RM_X6_readNeedles s m args below meth c H locs 0 0 (MQ below (QI D (TY K) (wf_X6_readNeedles K aC aCr aR) v A) args s MC_X6_readNeedles MS_X6_readNeedles A) (F0 m 39 ls []) := by
    intro y39_2 y39_3 rR_39 rD_39 n
    induction n with
    | zero =>
      intro y39_4 row_39 hF
      exact nomatch hF
    | succ n ih =>
      intro y39_4 row_39 hF H locs hP hD hS ls hl
      rw [f_X6_readNeedles_L39.eq_2] at hF
      refine lv_iload hx hb dX6_readNeedles_39 (lv_at hl 4 rfl) ?_
      refine lv_aload_n hx hb dX6_readNeedles_41 rfl (lv_at hl 1 rfl) ?_
      refine lv_iconst (v := (0 : Int32)) hx hb dX6_readNeedles_42 (by decide) ?_
      obtain ⟨v6, hv6, hF⟩ := oB hF
      refine call_i (wr := [(aR, .inr (4, [.int rR_39, .int rD_39]))]) (wn := [(aC, .inr (0, [.ref aCr])), (aCr, .inl (K 0, 55, .inl row_39)), (aR, .inr (4, [.int rR_39, .int rD_39]))]) (va_runV (As := [.int (0 : Int32)]) (rest := [.int y39_4]) ⟨hx, hb, hml, hown, hts⟩ (c_X0_get l D K aC aCr row_39 (0 : Int32) v6 hv6 H.size) (cwV 1 hts gX6_readNeedles_X0_get rfl rfl rfl (by decide +kernel) ⟨(Nat.le_of_ble_eq_true rfl), (Nat.le_of_ble_eq_true rfl)⟩) (prV hE hK hP hD hS hA [0, 1] rfl rfl 0 0 rfl rfl rfl) rfl rfl hl.1 rfl (lv_room (Nat.le_of_ble_eq_true rfl)) dX6_readNeedles_43 ⟨(Nat.le_of_ble_eq_true rfl), (Nat.le_of_ble_eq_true rfl)⟩) hP hD hS hA [0, 1] [2] [1, 2, 0] rfl rfl rfl (by decide) rfl rfl (fun H locs hP hD hS => ?_)
      refine lv_icmp_ge (tgt := 78) hx hb dX6_readNeedles_46 (by decide) (fun c7 => ?_) (fun c7 => ?_)
      · have hF := oT c7 hF
        refine lv_aload_n hx hb dX6_readNeedles_78 rfl (lv_at hl 1 rfl) ?_
        refine lv_bipush (v := (8 : Int32)) hx hb dX6_readNeedles_79 (by decide) ?_
        refine lv_iconst (v := (1 : Int32)) hx hb dX6_readNeedles_81 (by decide) ?_
        obtain ⟨v8, hv8, hF⟩ := oB hF
        refine call_v (wr := [(aR, .inr (4, [.int rR_39, .int rD_39]))]) (wn := [(aC, .inr (0, [.ref aCr])), (aCr, .inl (K 0, 55, .inl v8)), (aR, .inr (4, [.int rR_39, .int rD_39]))]) (va_runV (As := [.int (8 : Int32), .int (1 : Int32)]) (rest := []) ⟨hx, hb, hml, hown, hts⟩ (c_X0_add l D K aC aCr row_39 (8 : Int32) (1 : Int32) v8 hv8 H.size) (cwV 2 hts gX6_readNeedles_X0_add rfl rfl rfl (by decide +kernel) ⟨(Nat.le_of_ble_eq_true rfl), (Nat.le_of_ble_eq_true rfl)⟩) (prV hE hK hP hD hS hA [0, 1] rfl rfl 0 0 rfl rfl rfl) rfl rfl hl.1 rfl (lv_room (Nat.le_of_ble_eq_true rfl)) dX6_readNeedles_82 ⟨(Nat.le_of_ble_eq_true rfl), (Nat.le_of_ble_eq_true rfl)⟩) hP hD hS hA [0, 1] [2] [1, 2, 0] rfl rfl rfl (by decide) rfl rfl (fun H locs hP hD hS => ?_)
        refine lv_iload_n hx hb dX6_readNeedles_85 rfl (lv_at hl 2 rfl) ?_
        obtain ⟨v9, hv9, hF⟩ := oB hF
        refine call_i (wr := [(aC, .inr (0, [.ref aCr])), (aCr, .inl (K 0, 55, .inl v8)), (aR, .inr (4, [.int rR_39, .int rD_39]))]) (wn := [(aC, .inr (0, [.ref aCr])), (aCr, .inl (K 0, 55, .inl v8)), (aR, .inr (4, [.int rR_39, .int rD_39]))]) (va_runS (As := [.int y39_2]) (rest := []) ⟨hx, hb, hml, hown, hts⟩ (c_J6_bitCount_0f7a4 l D K y39_2 v9 hv9 H.size) (va_cwS 1 hts gX6_readNeedles_J6_bitCount_0f7a4 rfl rfl rfl (by decide +kernel) ⟨(Nat.le_of_ble_eq_true rfl), (Nat.le_of_ble_eq_true rfl)⟩) (prS hE hK hP hD hS hA [] rfl rfl) rfl rfl hl.1 rfl (lv_room (Nat.le_of_ble_eq_true rfl)) dX6_readNeedles_86 ⟨(Nat.le_of_ble_eq_true rfl), (Nat.le_of_ble_eq_true rfl)⟩) hP hD hS hA [] [0, 1, 2] [0, 1, 2] rfl rfl rfl (by decide) rfl rfl (fun H locs hP hD hS => ?_)
        exact fin_i (u := (v9.1, (v8, rR_39, rD_39))) hF hx hb hr hlocks hK hP hD hS (Nat.le_of_ble_eq_true rfl) (Nat.le_of_ble_eq_true rfl) dX6_readNeedles_89
      · have hF := oF c7 hF
        refine lv_iload_n hx hb dX6_readNeedles_49 rfl (lv_at hl 2 rfl) ?_
        refine lv_iload hx hb dX6_readNeedles_50 (lv_at hl 4 rfl) ?_
        refine lv_ishr hx hb dX6_readNeedles_52 ?_
        refine lv_iconst (v := (1 : Int32)) hx hb dX6_readNeedles_53 (by decide) ?_
        refine lv_iand hx hb dX6_readNeedles_54 ?_
        refine lv_iconst (v := (1 : Int32)) hx hb dX6_readNeedles_55 (by decide) ?_
        refine lv_icmp_ne (tgt := 66) hx hb dX6_readNeedles_56 (by decide) (fun c10 => ?_) (fun c10 => ?_)
        · have hF := oF c10 hF
          refine lv_aload_n hx hb dX6_readNeedles_66 rfl (lv_at hl 1 rfl) ?_
          refine lv_iload hx hb dX6_readNeedles_67 (lv_at hl 4 rfl) ?_
          obtain ⟨v11, hv11, hF⟩ := oB hF
          refine call_v (wr := [(aR, .inr (4, [.int rR_39, .int rD_39]))]) (wn := [(aC, .inr (0, [.ref aCr])), (aCr, .inl (K 0, 55, .inl v11)), (aR, .inr (4, [.int rR_39, .int rD_39]))]) (va_runV (As := [.int y39_4]) (rest := []) ⟨hx, hb, hml, hown, hts⟩ (c_X0_clearWager l D K aC aCr row_39 y39_4 v11 hv11 H.size) (cwV 1 hts gX6_readNeedles_X0_clearWager rfl rfl rfl (by decide +kernel) ⟨(Nat.le_of_ble_eq_true rfl), (Nat.le_of_ble_eq_true rfl)⟩) (prV hE hK hP hD hS hA [0, 1] rfl rfl 0 0 rfl rfl rfl) rfl rfl hl.1 rfl (lv_room (Nat.le_of_ble_eq_true rfl)) dX6_readNeedles_69 ⟨(Nat.le_of_ble_eq_true rfl), (Nat.le_of_ble_eq_true rfl)⟩) hP hD hS hA [0, 1] [2] [1, 2, 0] rfl rfl rfl (by decide) rfl rfl (fun H locs hP hD hS => ?_)
          refine lv_iinc (v := y39_4 + (1 : Int32)) (lv' := [(4, .int (y39_4 + (1 : Int32))), (0, .ref aR), (1, .ref aC), (2, .int y39_2), (3, .int y39_3)]) hx hb dX6_readNeedles_72 hl (k := 4) rfl (by first | rfl | decide) (by decide) rfl (fun ls hl => ?_)
          refine lv_goto (tgt := 39) hx hb dX6_readNeedles_75 (by decide) ?_
          exact ih (y39_4 + (1 : Int32)) v11 hF _ _ hP hD hS _ (lv_sub hl [1, 2, 3, 4, 0] rfl)
        · have hF := oT c10 hF
          refine lv_aload_n hx hb dX6_readNeedles_59 rfl (lv_at hl 1 rfl) ?_
          refine lv_iload hx hb dX6_readNeedles_60 (lv_at hl 4 rfl) ?_
          refine lv_iload_n hx hb dX6_readNeedles_62 rfl (lv_at hl 3 rfl) ?_
          obtain ⟨v12, hv12, hF⟩ := oB hF
          refine call_v (wr := [(aR, .inr (4, [.int rR_39, .int rD_39]))]) (wn := [(aC, .inr (0, [.ref aCr])), (aCr, .inl (K 0, 55, .inl v12)), (aR, .inr (4, [.int rR_39, .int rD_39]))]) (va_runS (As := [.ref aC, .int y39_4, .int y39_3]) (rest := []) ⟨hx, hb, hml, hown, hts⟩ (c_X6_payWinner l D K aC aCr row_39 y39_4 y39_3 v12 hv12 H.size) (va_cwS 3 hts gX6_readNeedles_X6_payWinner rfl rfl rfl (by decide +kernel) ⟨(Nat.le_of_ble_eq_true rfl), (Nat.le_of_ble_eq_true rfl)⟩) (prS hE hK hP hD hS hA [0, 1] rfl rfl) rfl rfl hl.1 rfl (lv_room (Nat.le_of_ble_eq_true rfl)) dX6_readNeedles_63 ⟨(Nat.le_of_ble_eq_true rfl), (Nat.le_of_ble_eq_true rfl)⟩) hP hD hS hA [0, 1] [2] [1, 2, 0] rfl rfl rfl (by decide) rfl rfl (fun H locs hP hD hS => ?_)
          refine lv_aload_n hx hb dX6_readNeedles_66 rfl (lv_at hl 1 rfl) ?_
          refine lv_iload hx hb dX6_readNeedles_67 (lv_at hl 4 rfl) ?_
          obtain ⟨v13, hv13, hF⟩ := oB hF
          refine call_v (wr := [(aR, .inr (4, [.int rR_39, .int rD_39]))]) (wn := [(aC, .inr (0, [.ref aCr])), (aCr, .inl (K 0, 55, .inl v13)), (aR, .inr (4, [.int rR_39, .int rD_39]))]) (va_runV (As := [.int y39_4]) (rest := []) ⟨hx, hb, hml, hown, hts⟩ (c_X0_clearWager l D K aC aCr v12 y39_4 v13 hv13 H.size) (cwV 1 hts gX6_readNeedles_X0_clearWager rfl rfl rfl (by decide +kernel) ⟨(Nat.le_of_ble_eq_true rfl), (Nat.le_of_ble_eq_true rfl)⟩) (prV hE hK hP hD hS hA [0, 1] rfl rfl 0 0 rfl rfl rfl) rfl rfl hl.1 rfl (lv_room (Nat.le_of_ble_eq_true rfl)) dX6_readNeedles_69 ⟨(Nat.le_of_ble_eq_true rfl), (Nat.le_of_ble_eq_true rfl)⟩) hP hD hS hA [0, 1] [2] [1, 2, 0] rfl rfl rfl (by decide) rfl rfl (fun H locs hP hD hS => ?_)
          refine lv_iinc (v := y39_4 + (1 : Int32)) (lv' := [(4, .int (y39_4 + (1 : Int32))), (0, .ref aR), (1, .ref aC), (2, .int y39_2), (3, .int y39_3)]) hx hb dX6_readNeedles_72 hl (k := 4) rfl (by first | rfl | decide) (by decide) rfl (fun ls hl => ?_)
          refine lv_goto (tgt := 39) hx hb dX6_readNeedles_75 (by decide) ?_
          exact ih (y39_4 + (1 : Int32)) v13 hF _ _ hP hD hS _ (lv_sub hl [1, 2, 3, 4, 0] rfl)
  rw [f_X6_readNeedles] at hF
  refine lv_aload_n hx hb dX6_readNeedles_0 rfl (lv_at hl 1 rfl) ?_
  obtain ⟨v1, hv1, hF⟩ := oB hF
  refine call_i (wr := [(aR, .inr (4, [.int rR, .int rD]))]) (wn := [(aC, .inr (0, [.ref aCr])), (aCr, .inl (K 0, 55, .inl row)), (aR, .inr (4, [.int rR, .int rD]))]) (va_runV (As := []) (rest := []) ⟨hx, hb, hml, hown, hts⟩ (c_X0_wageredNumber l D K aC aCr row v1 hv1 s.heap.size) (cwV 0 hts gX6_readNeedles_X0_wageredNumber rfl rfl rfl (by decide +kernel) ⟨(Nat.le_of_ble_eq_true rfl), (Nat.le_of_ble_eq_true rfl)⟩) (prV hE hK hP hD hS hA [0, 1] rfl rfl 0 0 rfl rfl rfl) rfl rfl hl.1 rfl (lv_room (Nat.le_of_ble_eq_true rfl)) dX6_readNeedles_1 ⟨(Nat.le_of_ble_eq_true rfl), (Nat.le_of_ble_eq_true rfl)⟩) hP hD hS hA [0, 1] [2] [1, 2, 0] rfl rfl rfl (by decide) rfl rfl (fun H locs hP hD hS => ?_)
  refine lv_if_ne (tgt := 20) hx hb dX6_readNeedles_4 (by decide) (fun c2 => ?_) (fun c2 => ?_)
  · have hF := oF c2 hF
    refine lv_aload_n hx hb dX6_readNeedles_20 rfl (lv_at hl 1 rfl) ?_
    refine lv_aload_n hx hb dX6_readNeedles_21 rfl (lv_at hl 1 rfl) ?_
    refine lv_iconst (v := (1 : Int32)) hx hb dX6_readNeedles_22 (by decide) ?_
    obtain ⟨v3, hv3, hF⟩ := oB hF
    refine call_i (wr := [(aR, .inr (4, [.int rR, .int rD]))]) (wn := [(aC, .inr (0, [.ref aCr])), (aCr, .inl (K 0, 55, .inl row)), (aR, .inr (4, [.int rR, .int rD]))]) (va_runV (As := [.int (1 : Int32)]) (rest := [.ref aC]) ⟨hx, hb, hml, hown, hts⟩ (c_X0_get l D K aC aCr row (1 : Int32) v3 hv3 H.size) (cwV 1 hts gX6_readNeedles_X0_get rfl rfl rfl (by decide +kernel) ⟨(Nat.le_of_ble_eq_true rfl), (Nat.le_of_ble_eq_true rfl)⟩) (prV hE hK hP hD hS hA [0, 1] rfl rfl 0 0 rfl rfl rfl) rfl rfl hl.1 rfl (lv_room (Nat.le_of_ble_eq_true rfl)) dX6_readNeedles_23 ⟨(Nat.le_of_ble_eq_true rfl), (Nat.le_of_ble_eq_true rfl)⟩) hP hD hS hA [0, 1] [2] [1, 2, 0] rfl rfl rfl (by decide) rfl rfl (fun H locs hP hD hS => ?_)
    obtain ⟨v4, hv4, hF⟩ := oB hF
    refine call_i (wr := [(aR, .inr (4, [.int rR, .int rD]))]) (wn := [(aC, .inr (0, [.ref aCr])), (aCr, .inl (K 0, 55, .inl row)), (aR, .inr (4, [.int rR, .int rD]))]) (va_runS (As := [.ref aC, .int v3.1]) (rest := []) ⟨hx, hb, hml, hown, hts⟩ (c_X3_nearest l D K aC aCr row v3.1 v4 hv4 H.size) (va_cwS 2 hts gX6_readNeedles_X3_nearest rfl rfl rfl (by decide +kernel) ⟨(Nat.le_of_ble_eq_true rfl), (Nat.le_of_ble_eq_true rfl)⟩) (prS hE hK hP hD hS hA [0, 1] rfl rfl) rfl rfl hl.1 rfl (lv_room (Nat.le_of_ble_eq_true rfl)) dX6_readNeedles_26 ⟨(Nat.le_of_ble_eq_true rfl), (Nat.le_of_ble_eq_true rfl)⟩) hP hD hS hA [0, 1] [2] [1, 2, 0] rfl rfl rfl (by decide) rfl rfl (fun H locs hP hD hS => ?_)
    refine lv_istore_n (lv' := [(2, .int v4.1), (0, .ref aR), (1, .ref aC)]) hx hb dX6_readNeedles_29 rfl hl (by decide) rfl (fun ls hl => ?_)
    refine lv_aload_n hx hb dX6_readNeedles_30 rfl (lv_at hl 2 rfl) ?_
    refine lv_iload_n hx hb dX6_readNeedles_31 rfl (lv_at hl 0 rfl) ?_
    obtain ⟨v5, hv5, hF⟩ := oB hF
    refine call_i (wr := [(aR, .inr (4, [.int rR, .int rD]))]) (wn := [(aC, .inr (0, [.ref aCr])), (aCr, .inl (K 0, 55, .inl row)), (aR, .inr (4, [.int rR, .int rD]))]) (va_runS (As := [.ref aC, .int v4.1]) (rest := []) ⟨hx, hb, hml, hown, hts⟩ (c_X3_shareOf l D K aC aCr row v4.1 v5 hv5 H.size) (va_cwS 2 hts gX6_readNeedles_X3_shareOf rfl rfl rfl (by decide +kernel) ⟨(Nat.le_of_ble_eq_true rfl), (Nat.le_of_ble_eq_true rfl)⟩) (prS hE hK hP hD hS hA [0, 1] rfl rfl) rfl rfl hl.1 rfl (lv_room (Nat.le_of_ble_eq_true rfl)) dX6_readNeedles_32 ⟨(Nat.le_of_ble_eq_true rfl), (Nat.le_of_ble_eq_true rfl)⟩) hP hD hS hA [0, 1] [2] [1, 2, 0] rfl rfl rfl (by decide) rfl rfl (fun H locs hP hD hS => ?_)
    refine lv_istore_n (lv' := [(3, .int v5.1), (2, .int v4.1), (0, .ref aR), (1, .ref aC)]) hx hb dX6_readNeedles_35 rfl hl (by decide) rfl (fun ls hl => ?_)
    refine lv_iconst (v := (0 : Int32)) hx hb dX6_readNeedles_36 (by decide) ?_
    refine lv_istore (lv' := [(4, .int (0 : Int32)), (3, .int v5.1), (2, .int v4.1), (0, .ref aR), (1, .ref aC)]) hx hb dX6_readNeedles_37 hl (by decide) rfl (fun ls hl => ?_)
    exact loop_39 v4.1 v5.1 rR rD FU (0 : Int32) row hF _ _ hP hD hS _ (lv_sub hl [3, 4, 2, 1, 0] rfl)
  · have hF := oT c2 hF
    refine lv_aload_n hx hb dX6_readNeedles_7 rfl (lv_at hl 0 rfl) ?_
    refine lv_bipush (v := (14 : Int32)) hx hb dX6_readNeedles_8 (by decide) ?_
    refine lv_aload_n hx hb dX6_readNeedles_10 rfl (lv_at hl 1 rfl) ?_
    refine lv_bipush (v := (7 : Int32)) hx hb dX6_readNeedles_11 (by decide) ?_
    obtain ⟨v14, hv14, hF⟩ := oB hF
    refine call_i (wr := [(aR, .inr (4, [.int rR, .int rD]))]) (wn := [(aC, .inr (0, [.ref aCr])), (aCr, .inl (K 0, 55, .inl row)), (aR, .inr (4, [.int rR, .int rD]))]) (va_runV (As := [.int (7 : Int32)]) (rest := [.int (14 : Int32), .ref aR]) ⟨hx, hb, hml, hown, hts⟩ (c_X0_get l D K aC aCr row (7 : Int32) v14 hv14 H.size) (cwV 1 hts gX6_readNeedles_X0_get rfl rfl rfl (by decide +kernel) ⟨(Nat.le_of_ble_eq_true rfl), (Nat.le_of_ble_eq_true rfl)⟩) (prV hE hK hP hD hS hA [0, 1] rfl rfl 0 0 rfl rfl rfl) rfl rfl hl.1 rfl (lv_room (Nat.le_of_ble_eq_true rfl)) dX6_readNeedles_13 ⟨(Nat.le_of_ble_eq_true rfl), (Nat.le_of_ble_eq_true rfl)⟩) hP hD hS hA [0, 1] [2] [1, 2, 0] rfl rfl rfl (by decide) rfl rfl (fun H locs hP hD hS => ?_)
    obtain ⟨v15, hv15, hF⟩ := oB hF
    refine call_i (wr := [(aC, .inr (0, [.ref aCr])), (aCr, .inl (K 0, 55, .inl row))]) (wn := [(aC, .inr (0, [.ref aCr])), (aCr, .inl (K 0, 55, .inl row)), (aR, .inr (4, [.int v15.2.1, .int v15.2.2]))]) (va_runV (As := [.int (14 : Int32), .int v14.1]) (rest := []) ⟨hx, hb, hml, hown, hts⟩ (c_X6_refuse l D K aR rR rD (14 : Int32) v14.1 v15 hv15 H.size) (cwV 2 hts gX6_readNeedles_X6_refuse rfl rfl rfl (by decide +kernel) ⟨(Nat.le_of_ble_eq_true rfl), (Nat.le_of_ble_eq_true rfl)⟩) (prV hE hK hP hD hS hA [2] rfl rfl 4 2 rfl rfl rfl) rfl rfl hl.1 rfl (lv_room (Nat.le_of_ble_eq_true rfl)) dX6_readNeedles_16 ⟨(Nat.le_of_ble_eq_true rfl), (Nat.le_of_ble_eq_true rfl)⟩) hP hD hS hA [2] [0, 1] [0, 1, 2] rfl rfl rfl (by decide) rfl rfl (fun H locs hP hD hS => ?_)
    exact fin_i (u := (v15.1, (row, v15.2.1, v15.2.2))) hF hx hb hr hlocks hK hP hD hS (Nat.le_of_ble_eq_true rfl) (Nat.le_of_ble_eq_true rfl) dX6_readNeedles_19
