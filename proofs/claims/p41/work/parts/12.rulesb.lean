abbrev RM_X6_carryOut : Room := { frames := 5, cells := 0, slots := 0, locals := 116 }
abbrev MC_X6_carryOut : Nat := 0
abbrev MS_X6_carryOut : Nat := 0
abbrev wf_X6_carryOut (K : Nat → ClassId) (aC : Nat) (aCr : Nat) (aR : Nat)  (v : Int32 × (Nat → Int32) × Int32 × Int32) : va_W := [(aC, .inr (0, [.ref aCr])), (aCr, .inl (K 0, 55, .inl v.2.1)), (aR, .inr (4, [.int v.2.2.1, .int v.2.2.2]))]
set_option maxHeartbeats 4000000 in
set_option maxRecDepth 100000 in
theorem c_X6_carryOut (l : Launch) (D : va_G) (K : Nat → ClassId) (aC : Nat) (aCr : Nat) (aR : Nat) (row : Nat → Int32) (rR : Int32) (rD : Int32) (p2 : Int32) (p3 : Int32) (p4 : Int32) (p5 : Int32) (v : Int32 × (Nat → Int32) × Int32 × Int32) (hF : f_X6_carryOut row rR rD p2 p3 p4 p5 = some v) (sz : Nat) :
    (Met l yX6_carryOut wsX6_carryOut RM_X6_carryOut (PC D (TY K) [(aC, .inr (0, [.ref aCr])), (aCr, .inl (K 0, 55, .inl row)), (aR, .inr (4, [.int rR, .int rD]))] [.ref aR, .ref aC, .int p2, .int p3, .int p4, .int p5] sz) (QI D (TY K) (wf_X6_carryOut K aC aCr aR) v (va_A [(aC, .inr (0, [.ref aCr])), (aCr, .inl (K 0, 55, .inl row)), (aR, .inr (4, [.int rR, .int rD]))] sz)) MC_X6_carryOut MS_X6_carryOut (va_A [(aC, .inr (0, [.ref aCr])), (aCr, .inl (K 0, 55, .inl row)), (aR, .inr (4, [.int rR, .int rD]))] sz)) := by
  refine pro (Qf := fun A => QI D (TY K) (wf_X6_carryOut K aC aCr aR) v A) (cc := cX6_carryOut) (maxL := 6) (ret := (some .int)) (by decide +kernel) rfl (Nat.le_of_ble_eq_true rfl) ?_
  intro p e s m args below meth c hx hb hr hts hown hlocks hml hini hK A hA hE hP hD hS ls hl
  have hown : s.vm.findClass RX6 = some m.cls := hown
  have hl : lv_has ls 6 [(0, .ref aR), (1, .ref aC), (2, .int p2), (3, .int p3), (4, .int p4), (5, .int p5)] := hl
  rw [f_X6_carryOut] at hF
  refine lv_aload_n hx hb dX6_carryOut_0 rfl (lv_at hl 0 rfl) ?_
  refine lv_iconst (v := (0 : Int32)) hx hb dX6_carryOut_1 (by decide) ?_
  refine va_put (D := D) (ci := 4) (v := .int (0 : Int32)) (ty := .int) (C := RX6) (T := TX6) (N := 2) hx hb hts (fun _ h => List.mem_cons_of_mem _ (List.mem_append_left _ (List.mem_append_left _ (List.mem_append_left _ (List.mem_append_right _ h))))) tyX6 tyX6_ok nmX6 hown hK hP hD hS 2 rfl rfl 0 (by decide) (hts (.fieldLink RX6 9 "BarometerClub$Rules" "reason" "I") (List.mem_of_getElem? (i := 1) rfl)) (fun _ h9 => h9) rfl (by decide +kernel) rfl rfl (Nat.le_of_ble_eq_true rfl) dX6_carryOut_2 (fun H locs hP hD hS => ?_)
  have hP : va_P D vwC7 [(aC, .inr (0, [.ref aCr])), (aCr, .inl (K 0, 55, .inl row)), (aR, .inr (4, [.int (0 : Int32), .int rD]))] H := hP
  have hD : va_D A [(aC, .inr (0, [.ref aCr])), (aCr, .inl (K 0, 55, .inl row)), (aR, .inr (4, [.int (0 : Int32), .int rD]))] := hD
  refine lv_aload_n hx hb dX6_carryOut_5 rfl (lv_at hl 0 rfl) ?_
  refine lv_iconst (v := (0 : Int32)) hx hb dX6_carryOut_6 (by decide) ?_
  refine va_put (D := D) (ci := 4) (v := .int (0 : Int32)) (ty := .int) (C := RX6) (T := TX6) (N := 2) hx hb hts (fun _ h => List.mem_cons_of_mem _ (List.mem_append_left _ (List.mem_append_left _ (List.mem_append_left _ (List.mem_append_right _ h))))) tyX6 tyX6_ok nmX6 hown hK hP hD hS 2 rfl rfl 1 (by decide) (hts (.fieldLink RX6 15 "BarometerClub$Rules" "detail" "I") (List.mem_of_getElem? (i := 2) rfl)) (fun _ h9 => h9) rfl (by decide +kernel) rfl rfl (Nat.le_of_ble_eq_true rfl) dX6_carryOut_7 (fun H locs hP hD hS => ?_)
  have hP : va_P D vwC7 [(aC, .inr (0, [.ref aCr])), (aCr, .inl (K 0, 55, .inl row)), (aR, .inr (4, [.int (0 : Int32), .int (0 : Int32)]))] H := hP
  have hD : va_D A [(aC, .inr (0, [.ref aCr])), (aCr, .inl (K 0, 55, .inl row)), (aR, .inr (4, [.int (0 : Int32), .int (0 : Int32)]))] := hD
  refine lv_iload_n hx hb dX6_carryOut_10 rfl (lv_at hl 2 rfl) ?_
  by_cases c1 : p2 = (98 : Int32)
  · have hF := oT c1 hF
    refine lv_tableIn (off := 162) (tgt := 173) hx hb dX6_carryOut_11 (by rw [c1]; decide) (by rw [c1]; decide) (by rw [c1]; rfl) (by decide) ?_
    refine lv_aload_n hx hb dX6_carryOut_173 rfl (lv_at hl 0 rfl) ?_
    refine lv_aload_n hx hb dX6_carryOut_174 rfl (lv_at hl 1 rfl) ?_
    refine lv_iload_n hx hb dX6_carryOut_175 rfl (lv_at hl 3 rfl) ?_
    obtain ⟨v2, hv2, hF⟩ := oB hF
    refine call_i (wr := []) (wn := [(aC, .inr (0, [.ref aCr])), (aCr, .inl (K 0, 55, .inl v2.2.1)), (aR, .inr (4, [.int v2.2.2.1, .int v2.2.2.2]))]) (va_runV (As := [.ref aC, .int p3]) (rest := []) ⟨hx, hb, hml, hown, hts⟩ (c_X6_fill l D K aC aCr aR row (0 : Int32) (0 : Int32) p3 v2 hv2 H.size) (cwV 2 hts gX6_carryOut_X6_fill rfl rfl rfl (by decide +kernel) ⟨(Nat.le_of_ble_eq_true rfl), (Nat.le_of_ble_eq_true rfl)⟩) (prV hE hK hP hD hS hA [0, 1, 2] rfl rfl 4 2 rfl rfl rfl) rfl rfl hl.1 rfl (lv_room (Nat.le_of_ble_eq_true rfl)) dX6_carryOut_176 ⟨(Nat.le_of_ble_eq_true rfl), (Nat.le_of_ble_eq_true rfl)⟩) hP hD hS hA [0, 1, 2] [] [0, 1, 2] rfl rfl rfl (by decide) rfl rfl (fun H locs hP hD hS => ?_)
    exact fin_i (u := (v2.1, (v2.2.1, v2.2.2.1, v2.2.2.2))) hF hx hb hr hlocks hK hP hD hS (Nat.le_of_ble_eq_true rfl) (Nat.le_of_ble_eq_true rfl) dX6_carryOut_179
  have hF := oF c1 hF
  by_cases c3 : p2 = (100 : Int32)
  · have hF := oT c3 hF
    refine lv_tableIn (off := 155) (tgt := 166) hx hb dX6_carryOut_11 (by rw [c3]; decide) (by rw [c3]; decide) (by rw [c3]; rfl) (by decide) ?_
    refine lv_aload_n hx hb dX6_carryOut_166 rfl (lv_at hl 0 rfl) ?_
    refine lv_aload_n hx hb dX6_carryOut_167 rfl (lv_at hl 1 rfl) ?_
    refine lv_iload_n hx hb dX6_carryOut_168 rfl (lv_at hl 3 rfl) ?_
    obtain ⟨v4, hv4, hF⟩ := oB hF
    refine call_i (wr := []) (wn := [(aC, .inr (0, [.ref aCr])), (aCr, .inl (K 0, 55, .inl v4.2.1)), (aR, .inr (4, [.int v4.2.2.1, .int v4.2.2.2]))]) (va_runV (As := [.ref aC, .int p3]) (rest := []) ⟨hx, hb, hml, hown, hts⟩ (c_X6_passDay l D K aC aCr aR row (0 : Int32) (0 : Int32) p3 v4 hv4 H.size) (cwV 2 hts gX6_carryOut_X6_passDay rfl rfl rfl (by decide +kernel) ⟨(Nat.le_of_ble_eq_true rfl), (Nat.le_of_ble_eq_true rfl)⟩) (prV hE hK hP hD hS hA [0, 1, 2] rfl rfl 4 2 rfl rfl rfl) rfl rfl hl.1 rfl (lv_room (Nat.le_of_ble_eq_true rfl)) dX6_carryOut_169 ⟨(Nat.le_of_ble_eq_true rfl), (Nat.le_of_ble_eq_true rfl)⟩) hP hD hS hA [0, 1, 2] [] [0, 1, 2] rfl rfl rfl (by decide) rfl rfl (fun H locs hP hD hS => ?_)
    exact fin_i (u := (v4.1, (v4.2.1, v4.2.2.1, v4.2.2.2))) hF hx hb hr hlocks hK hP hD hS (Nat.le_of_ble_eq_true rfl) (Nat.le_of_ble_eq_true rfl) dX6_carryOut_172
  have hF := oF c3 hF
  by_cases c5 : p2 = (106 : Int32)
  · have hF := oT c5 hF
    refine lv_tableIn (off := 105) (tgt := 116) hx hb dX6_carryOut_11 (by rw [c5]; decide) (by rw [c5]; decide) (by rw [c5]; rfl) (by decide) ?_
    refine lv_aload_n hx hb dX6_carryOut_116 rfl (lv_at hl 0 rfl) ?_
    refine lv_aload_n hx hb dX6_carryOut_117 rfl (lv_at hl 1 rfl) ?_
    refine lv_iload_n hx hb dX6_carryOut_118 rfl (lv_at hl 3 rfl) ?_
    obtain ⟨v6, hv6, hF⟩ := oB hF
    refine call_i (wr := []) (wn := [(aC, .inr (0, [.ref aCr])), (aCr, .inl (K 0, 55, .inl v6.2.1)), (aR, .inr (4, [.int v6.2.2.1, .int v6.2.2.2]))]) (va_runV (As := [.ref aC, .int p3]) (rest := []) ⟨hx, hb, hml, hown, hts⟩ (c_X6_enter l D K aC aCr aR row (0 : Int32) (0 : Int32) p3 v6 hv6 H.size) (cwV 2 hts gX6_carryOut_X6_enter rfl rfl rfl (by decide +kernel) ⟨(Nat.le_of_ble_eq_true rfl), (Nat.le_of_ble_eq_true rfl)⟩) (prV hE hK hP hD hS hA [0, 1, 2] rfl rfl 4 2 rfl rfl rfl) rfl rfl hl.1 rfl (lv_room (Nat.le_of_ble_eq_true rfl)) dX6_carryOut_119 ⟨(Nat.le_of_ble_eq_true rfl), (Nat.le_of_ble_eq_true rfl)⟩) hP hD hS hA [0, 1, 2] [] [0, 1, 2] rfl rfl rfl (by decide) rfl rfl (fun H locs hP hD hS => ?_)
    exact fin_i (u := (v6.1, (v6.2.1, v6.2.2.1, v6.2.2.2))) hF hx hb hr hlocks hK hP hD hS (Nat.le_of_ble_eq_true rfl) (Nat.le_of_ble_eq_true rfl) dX6_carryOut_122
  have hF := oF c5 hF
  by_cases c7 : p2 = (109 : Int32)
  · have hF := oT c7 hF
    refine lv_tableIn (off := 119) (tgt := 130) hx hb dX6_carryOut_11 (by rw [c7]; decide) (by rw [c7]; decide) (by rw [c7]; rfl) (by decide) ?_
    refine lv_aload_n hx hb dX6_carryOut_130 rfl (lv_at hl 0 rfl) ?_
    refine lv_aload_n hx hb dX6_carryOut_131 rfl (lv_at hl 1 rfl) ?_
    refine lv_iload_n hx hb dX6_carryOut_132 rfl (lv_at hl 3 rfl) ?_
    refine lv_iload hx hb dX6_carryOut_133 (lv_at hl 4 rfl) ?_
    obtain ⟨v8, hv8, hF⟩ := oB hF
    refine call_i (wr := []) (wn := [(aC, .inr (0, [.ref aCr])), (aCr, .inl (K 0, 55, .inl v8.2.1)), (aR, .inr (4, [.int v8.2.2.1, .int v8.2.2.2]))]) (va_runV (As := [.ref aC, .int p3, .int p4]) (rest := []) ⟨hx, hb, hml, hown, hts⟩ (c_X6_climb l D K aC aCr aR row (0 : Int32) (0 : Int32) p3 p4 v8 hv8 H.size) (cwV 3 hts gX6_carryOut_X6_climb rfl rfl rfl (by decide +kernel) ⟨(Nat.le_of_ble_eq_true rfl), (Nat.le_of_ble_eq_true rfl)⟩) (prV hE hK hP hD hS hA [0, 1, 2] rfl rfl 4 2 rfl rfl rfl) rfl rfl hl.1 rfl (lv_room (Nat.le_of_ble_eq_true rfl)) dX6_carryOut_135 ⟨(Nat.le_of_ble_eq_true rfl), (Nat.le_of_ble_eq_true rfl)⟩) hP hD hS hA [0, 1, 2] [] [0, 1, 2] rfl rfl rfl (by decide) rfl rfl (fun H locs hP hD hS => ?_)
    exact fin_i (u := (v8.1, (v8.2.1, v8.2.2.1, v8.2.2.2))) hF hx hb hr hlocks hK hP hD hS (Nat.le_of_ble_eq_true rfl) (Nat.le_of_ble_eq_true rfl) dX6_carryOut_138
  have hF := oF c7 hF
  by_cases c9 : p2 = (111 : Int32)
  · have hF := oT c9 hF
    refine lv_tableIn (off := 169) (tgt := 180) hx hb dX6_carryOut_11 (by rw [c9]; decide) (by rw [c9]; decide) (by rw [c9]; rfl) (by decide) ?_
    refine lv_aload_n hx hb dX6_carryOut_180 rfl (lv_at hl 0 rfl) ?_
    refine lv_aload_n hx hb dX6_carryOut_181 rfl (lv_at hl 1 rfl) ?_
    refine lv_iload_n hx hb dX6_carryOut_182 rfl (lv_at hl 3 rfl) ?_
    obtain ⟨v10, hv10, hF⟩ := oB hF
    refine call_i (wr := []) (wn := [(aC, .inr (0, [.ref aCr])), (aCr, .inl (K 0, 55, .inl v10.2.1)), (aR, .inr (4, [.int v10.2.2.1, .int v10.2.2.2]))]) (va_runV (As := [.ref aC, .int p3]) (rest := []) ⟨hx, hb, hml, hown, hts⟩ (c_X6_uncork l D K aC aCr aR row (0 : Int32) (0 : Int32) p3 v10 hv10 H.size) (cwV 2 hts gX6_carryOut_X6_uncork rfl rfl rfl (by decide +kernel) ⟨(Nat.le_of_ble_eq_true rfl), (Nat.le_of_ble_eq_true rfl)⟩) (prV hE hK hP hD hS hA [0, 1, 2] rfl rfl 4 2 rfl rfl rfl) rfl rfl hl.1 rfl (lv_room (Nat.le_of_ble_eq_true rfl)) dX6_carryOut_183 ⟨(Nat.le_of_ble_eq_true rfl), (Nat.le_of_ble_eq_true rfl)⟩) hP hD hS hA [0, 1, 2] [] [0, 1, 2] rfl rfl rfl (by decide) rfl rfl (fun H locs hP hD hS => ?_)
    exact fin_i (u := (v10.1, (v10.2.1, v10.2.2.1, v10.2.2.2))) hF hx hb hr hlocks hK hP hD hS (Nat.le_of_ble_eq_true rfl) (Nat.le_of_ble_eq_true rfl) dX6_carryOut_186
  have hF := oF c9 hF
  by_cases c11 : p2 = (115 : Int32)
  · have hF := oT c11 hF
    refine lv_tableIn (off := 128) (tgt := 139) hx hb dX6_carryOut_11 (by rw [c11]; decide) (by rw [c11]; decide) (by rw [c11]; rfl) (by decide) ?_
    refine lv_aload_n hx hb dX6_carryOut_139 rfl (lv_at hl 0 rfl) ?_
    refine lv_aload_n hx hb dX6_carryOut_140 rfl (lv_at hl 1 rfl) ?_
    refine lv_iload_n hx hb dX6_carryOut_141 rfl (lv_at hl 3 rfl) ?_
    refine lv_iload hx hb dX6_carryOut_142 (lv_at hl 4 rfl) ?_
    obtain ⟨v12, hv12, hF⟩ := oB hF
    refine call_i (wr := []) (wn := [(aC, .inr (0, [.ref aCr])), (aCr, .inl (K 0, 55, .inl v12.2.1)), (aR, .inr (4, [.int v12.2.2.1, .int v12.2.2.2]))]) (va_runV (As := [.ref aC, .int p3, .int p4]) (rest := []) ⟨hx, hb, hml, hown, hts⟩ (c_X6_swap l D K aC aCr aR row (0 : Int32) (0 : Int32) p3 p4 v12 hv12 H.size) (cwV 3 hts gX6_carryOut_X6_swap rfl rfl rfl (by decide +kernel) ⟨(Nat.le_of_ble_eq_true rfl), (Nat.le_of_ble_eq_true rfl)⟩) (prV hE hK hP hD hS hA [0, 1, 2] rfl rfl 4 2 rfl rfl rfl) rfl rfl hl.1 rfl (lv_room (Nat.le_of_ble_eq_true rfl)) dX6_carryOut_144 ⟨(Nat.le_of_ble_eq_true rfl), (Nat.le_of_ble_eq_true rfl)⟩) hP hD hS hA [0, 1, 2] [] [0, 1, 2] rfl rfl rfl (by decide) rfl rfl (fun H locs hP hD hS => ?_)
    exact fin_i (u := (v12.1, (v12.2.1, v12.2.2.1, v12.2.2.2))) hF hx hb hr hlocks hK hP hD hS (Nat.le_of_ble_eq_true rfl) (Nat.le_of_ble_eq_true rfl) dX6_carryOut_147
  have hF := oF c11 hF
  by_cases c13 : p2 = (116 : Int32)
  · have hF := oT c13 hF
    refine lv_tableIn (off := 148) (tgt := 159) hx hb dX6_carryOut_11 (by rw [c13]; decide) (by rw [c13]; decide) (by rw [c13]; rfl) (by decide) ?_
    refine lv_aload_n hx hb dX6_carryOut_159 rfl (lv_at hl 0 rfl) ?_
    refine lv_aload_n hx hb dX6_carryOut_160 rfl (lv_at hl 1 rfl) ?_
    refine lv_iload_n hx hb dX6_carryOut_161 rfl (lv_at hl 3 rfl) ?_
    obtain ⟨v14, hv14, hF⟩ := oB hF
    refine call_i (wr := []) (wn := [(aC, .inr (0, [.ref aCr])), (aCr, .inl (K 0, 55, .inl v14.2.1)), (aR, .inr (4, [.int v14.2.2.1, .int v14.2.2.2]))]) (va_runV (As := [.ref aC, .int p3]) (rest := []) ⟨hx, hb, hml, hown, hts⟩ (c_X6_knock l D K aC aCr aR row (0 : Int32) (0 : Int32) p3 v14 hv14 H.size) (cwV 2 hts gX6_carryOut_X6_knock rfl rfl rfl (by decide +kernel) ⟨(Nat.le_of_ble_eq_true rfl), (Nat.le_of_ble_eq_true rfl)⟩) (prV hE hK hP hD hS hA [0, 1, 2] rfl rfl 4 2 rfl rfl rfl) rfl rfl hl.1 rfl (lv_room (Nat.le_of_ble_eq_true rfl)) dX6_carryOut_162 ⟨(Nat.le_of_ble_eq_true rfl), (Nat.le_of_ble_eq_true rfl)⟩) hP hD hS hA [0, 1, 2] [] [0, 1, 2] rfl rfl rfl (by decide) rfl rfl (fun H locs hP hD hS => ?_)
    exact fin_i (u := (v14.1, (v14.2.1, v14.2.2.1, v14.2.2.2))) hF hx hb hr hlocks hK hP hD hS (Nat.le_of_ble_eq_true rfl) (Nat.le_of_ble_eq_true rfl) dX6_carryOut_165
  have hF := oF c13 hF
  by_cases c15 : p2 = (119 : Int32)
  · have hF := oT c15 hF
    refine lv_tableIn (off := 137) (tgt := 148) hx hb dX6_carryOut_11 (by rw [c15]; decide) (by rw [c15]; decide) (by rw [c15]; rfl) (by decide) ?_
    refine lv_aload_n hx hb dX6_carryOut_148 rfl (lv_at hl 0 rfl) ?_
    refine lv_aload_n hx hb dX6_carryOut_149 rfl (lv_at hl 1 rfl) ?_
    refine lv_iload_n hx hb dX6_carryOut_150 rfl (lv_at hl 3 rfl) ?_
    refine lv_iload hx hb dX6_carryOut_151 (lv_at hl 4 rfl) ?_
    refine lv_iload hx hb dX6_carryOut_153 (lv_at hl 5 rfl) ?_
    obtain ⟨v16, hv16, hF⟩ := oB hF
    refine call_i (wr := []) (wn := [(aC, .inr (0, [.ref aCr])), (aCr, .inl (K 0, 55, .inl v16.2.1)), (aR, .inr (4, [.int v16.2.2.1, .int v16.2.2.2]))]) (va_runV (As := [.ref aC, .int p3, .int p4, .int p5]) (rest := []) ⟨hx, hb, hml, hown, hts⟩ (c_X6_bet l D K aC aCr aR row (0 : Int32) (0 : Int32) p3 p4 p5 v16 hv16 H.size) (cwV 4 hts gX6_carryOut_X6_bet rfl rfl rfl (by decide +kernel) ⟨(Nat.le_of_ble_eq_true rfl), (Nat.le_of_ble_eq_true rfl)⟩) (prV hE hK hP hD hS hA [0, 1, 2] rfl rfl 4 2 rfl rfl rfl) rfl rfl hl.1 rfl (lv_room (Nat.le_of_ble_eq_true rfl)) dX6_carryOut_155 ⟨(Nat.le_of_ble_eq_true rfl), (Nat.le_of_ble_eq_true rfl)⟩) hP hD hS hA [0, 1, 2] [] [0, 1, 2] rfl rfl rfl (by decide) rfl rfl (fun H locs hP hD hS => ?_)
    exact fin_i (u := (v16.1, (v16.2.1, v16.2.2.1, v16.2.2.2))) hF hx hb hr hlocks hK hP hD hS (Nat.le_of_ble_eq_true rfl) (Nat.le_of_ble_eq_true rfl) dX6_carryOut_158
  have hF := oF c15 hF
  by_cases c17 : p2 = (120 : Int32)
  · have hF := oT c17 hF
    refine lv_tableIn (off := 112) (tgt := 123) hx hb dX6_carryOut_11 (by rw [c17]; decide) (by rw [c17]; decide) (by rw [c17]; rfl) (by decide) ?_
    refine lv_aload_n hx hb dX6_carryOut_123 rfl (lv_at hl 0 rfl) ?_
    refine lv_aload_n hx hb dX6_carryOut_124 rfl (lv_at hl 1 rfl) ?_
    refine lv_iload_n hx hb dX6_carryOut_125 rfl (lv_at hl 3 rfl) ?_
    obtain ⟨v18, hv18, hF⟩ := oB hF
    refine call_i (wr := []) (wn := [(aC, .inr (0, [.ref aCr])), (aCr, .inl (K 0, 55, .inl v18.2.1)), (aR, .inr (4, [.int v18.2.2.1, .int v18.2.2.2]))]) (va_runV (As := [.ref aC, .int p3]) (rest := []) ⟨hx, hb, hml, hown, hts⟩ (c_X6_goAway l D K aC aCr aR row (0 : Int32) (0 : Int32) p3 v18 hv18 H.size) (cwV 2 hts gX6_carryOut_X6_goAway rfl rfl rfl (by decide +kernel) ⟨(Nat.le_of_ble_eq_true rfl), (Nat.le_of_ble_eq_true rfl)⟩) (prV hE hK hP hD hS hA [0, 1, 2] rfl rfl 4 2 rfl rfl rfl) rfl rfl hl.1 rfl (lv_room (Nat.le_of_ble_eq_true rfl)) dX6_carryOut_126 ⟨(Nat.le_of_ble_eq_true rfl), (Nat.le_of_ble_eq_true rfl)⟩) hP hD hS hA [0, 1, 2] [] [0, 1, 2] rfl rfl rfl (by decide) rfl rfl (fun H locs hP hD hS => ?_)
    exact fin_i (u := (v18.1, (v18.2.1, v18.2.2.1, v18.2.2.2))) hF hx hb hr hlocks hK hP hD hS (Nat.le_of_ble_eq_true rfl) (Nat.le_of_ble_eq_true rfl) dX6_carryOut_129
  have hF := oF c17 hF
  refine tsw_d (ks := ([98, 100, 106, 109, 111, 115, 116, 119, 120] : List Int)) (tgt := 187) hx hb dX6_carryOut_11 (by decide) (by decide) (List.forall_mem_cons.mpr ⟨lv_neT c1 rfl, List.forall_mem_cons.mpr ⟨lv_neT c3 rfl, List.forall_mem_cons.mpr ⟨lv_neT c5 rfl, List.forall_mem_cons.mpr ⟨lv_neT c7 rfl, List.forall_mem_cons.mpr ⟨lv_neT c9 rfl, List.forall_mem_cons.mpr ⟨lv_neT c11 rfl, List.forall_mem_cons.mpr ⟨lv_neT c13 rfl, List.forall_mem_cons.mpr ⟨lv_neT c15 rfl, List.forall_mem_cons.mpr ⟨lv_neT c17 rfl, fun _ h9 => absurd h9 List.not_mem_nil⟩⟩⟩⟩⟩⟩⟩⟩⟩) (by decide) ?_
  refine lv_aload_n hx hb dX6_carryOut_187 rfl (lv_at hl 0 rfl) ?_
  refine lv_aload_n hx hb dX6_carryOut_188 rfl (lv_at hl 1 rfl) ?_
  obtain ⟨v19, hv19, hF⟩ := oB hF
  refine call_i (wr := []) (wn := [(aC, .inr (0, [.ref aCr])), (aCr, .inl (K 0, 55, .inl v19.2.1)), (aR, .inr (4, [.int v19.2.2.1, .int v19.2.2.2]))]) (va_runV (As := [.ref aC]) (rest := []) ⟨hx, hb, hml, hown, hts⟩ (c_X6_readNeedles l D K aC aCr aR row (0 : Int32) (0 : Int32) v19 hv19 H.size) (cwV 1 hts gX6_carryOut_X6_readNeedles rfl rfl rfl (by decide +kernel) ⟨(Nat.le_of_ble_eq_true rfl), (Nat.le_of_ble_eq_true rfl)⟩) (prV hE hK hP hD hS hA [0, 1, 2] rfl rfl 4 2 rfl rfl rfl) rfl rfl hl.1 rfl (lv_room (Nat.le_of_ble_eq_true rfl)) dX6_carryOut_189 ⟨(Nat.le_of_ble_eq_true rfl), (Nat.le_of_ble_eq_true rfl)⟩) hP hD hS hA [0, 1, 2] [] [0, 1, 2] rfl rfl rfl (by decide) rfl rfl (fun H locs hP hD hS => ?_)
  exact fin_i (u := (v19.1, (v19.2.1, v19.2.2.1, v19.2.2.2))) hF hx hb hr hlocks hK hP hD hS (Nat.le_of_ble_eq_true rfl) (Nat.le_of_ble_eq_true rfl) dX6_carryOut_192
