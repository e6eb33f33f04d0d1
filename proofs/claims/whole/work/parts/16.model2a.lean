abbrev RM_X8_thrown : Room := { frames := 0, cells := 0, slots := 0, locals := 0 }
abbrev MC_X8_thrown : Nat := 0
abbrev MS_X8_thrown : Nat := 0
abbrev wf_X8_thrown (K : Nat → ClassId) (aM : Nat) (aMn : Nat) (aMt : Nat) (aMk : Nat) (aMs : Nat) (aMl : Nat) (aMx : Nat) (aMd : Nat) (mU : Int32) (mB : Int32) (mI : Int32) (mH : Int32) (mQ : Int32) (mW : Int32) (mF : Int32) (mR : Int32) (mD : Int32) (mJ : Int32) (mA : Int32) (mT : Int32) (v : Int32 × Unit) : va_W := [(aM, .inr (6, [.ref aMn, .ref aMt, .ref aMk, .int mU, .ref aMs, .int mB, .ref aMl, .int mI, .ref aMx, .int mH, .int mQ, .int mW, .ref aMd, .int mF, .int mR, .int mD, .int mJ, .int mA, .int mT]))]
set_option maxHeartbeats 4000000 in
set_option maxRecDepth 100000 in
theorem c_X8_thrown (l : Launch) (D : va_G) (K : Nat → ClassId) (aM : Nat) (aMn : Nat) (aMt : Nat) (aMk : Nat) (aMs : Nat) (aMl : Nat) (aMx : Nat) (aMd : Nat) (mU : Int32) (mB : Int32) (mI : Int32) (mH : Int32) (mQ : Int32) (mW : Int32) (mF : Int32) (mR : Int32) (mD : Int32) (mJ : Int32) (mA : Int32) (mT : Int32)  (v : Int32 × Unit) (hF : f_X8_thrown mT = some v) (sz : Nat) :
    (Met l yX8_thrown wsX8_thrown RM_X8_thrown (PC D (TY K) [(aM, .inr (6, [.ref aMn, .ref aMt, .ref aMk, .int mU, .ref aMs, .int mB, .ref aMl, .int mI, .ref aMx, .int mH, .int mQ, .int mW, .ref aMd, .int mF, .int mR, .int mD, .int mJ, .int mA, .int mT]))] [.ref aM] sz) (QI D (TY K) (wf_X8_thrown K aM aMn aMt aMk aMs aMl aMx aMd mU mB mI mH mQ mW mF mR mD mJ mA mT) v (va_A [(aM, .inr (6, [.ref aMn, .ref aMt, .ref aMk, .int mU, .ref aMs, .int mB, .ref aMl, .int mI, .ref aMx, .int mH, .int mQ, .int mW, .ref aMd, .int mF, .int mR, .int mD, .int mJ, .int mA, .int mT]))] sz)) MC_X8_thrown MS_X8_thrown (va_A [(aM, .inr (6, [.ref aMn, .ref aMt, .ref aMk, .int mU, .ref aMs, .int mB, .ref aMl, .int mI, .ref aMx, .int mH, .int mQ, .int mW, .ref aMd, .int mF, .int mR, .int mD, .int mJ, .int mA, .int mT]))] sz)) := by
  refine pro (Qf := fun A => QI D (TY K) (wf_X8_thrown K aM aMn aMt aMk aMs aMl aMx aMd mU mB mI mH mQ mW mF mR mD mJ mA mT) v A) (cc := cX8_thrown) (maxL := 1) (ret := (some .int)) (by decide +kernel) rfl (Nat.le_of_ble_eq_true rfl) ?_
  intro p e s m args below meth c hx hb hr hts hown hlocks hml hini hK A hA hE hP hD hS ls hl
  have hown : s.vm.findClass RX8 = some m.cls := hown
  have hl : lv_has ls 1 [(0, .ref aM)] := hl
  rw [f_X8_thrown] at hF
  refine lv_aload_n hx hb dX8_thrown_0 rfl (lv_at hl 0 rfl) ?_
  refine va_get (D := D) (ci := 6) (v := .int mT) (C := RX8) (T := TX8) (N := 19) hx hb hts (fun _ h => List.mem_cons_of_mem _ (List.mem_append_right _ h)) hown hK hP 0 rfl rfl 18 (by decide) (hts (.fieldLink RX8 36 "BarometerClubModel" "thrown" "I") (List.mem_of_getElem? (i := 1) rfl)) (fun _ h9 => h9) rfl dX8_thrown_1 ?_
  exact fin_i (u := (mT, ())) hF hx hb hr hlocks hK hP hD hS (Nat.le_of_ble_eq_true rfl) (Nat.le_of_ble_eq_true rfl) dX8_thrown_4
abbrev RM_X8_raises : Room := { frames := 0, cells := 0, slots := 0, locals := 0 }
abbrev MC_X8_raises : Nat := 0
abbrev MS_X8_raises : Nat := 0
abbrev wf_X8_raises (K : Nat → ClassId) (aM : Nat) (aMn : Nat) (aMt : Nat) (aMk : Nat) (aMs : Nat) (aMl : Nat) (aMx : Nat) (aMd : Nat) (mU : Int32) (mB : Int32) (mI : Int32) (mH : Int32) (mQ : Int32) (mW : Int32) (mF : Int32) (mR : Int32) (mD : Int32) (mJ : Int32) (mA : Int32) (v : Int32 × Int32) : va_W := [(aM, .inr (6, [.ref aMn, .ref aMt, .ref aMk, .int mU, .ref aMs, .int mB, .ref aMl, .int mI, .ref aMx, .int mH, .int mQ, .int mW, .ref aMd, .int mF, .int mR, .int mD, .int mJ, .int mA, .int v.2]))]
set_option maxHeartbeats 4000000 in
set_option maxRecDepth 100000 in
theorem c_X8_raises (l : Launch) (D : va_G) (K : Nat → ClassId) (aM : Nat) (aMn : Nat) (aMt : Nat) (aMk : Nat) (aMs : Nat) (aMl : Nat) (aMx : Nat) (aMd : Nat) (mU : Int32) (mB : Int32) (mI : Int32) (mH : Int32) (mQ : Int32) (mW : Int32) (mF : Int32) (mR : Int32) (mD : Int32) (mJ : Int32) (mA : Int32) (mT : Int32) (p1 : Int32) (v : Int32 × Int32) (hF : f_X8_raises mT p1 = some v) (sz : Nat) :
    (Met l yX8_raises wsX8_raises RM_X8_raises (PC D (TY K) [(aM, .inr (6, [.ref aMn, .ref aMt, .ref aMk, .int mU, .ref aMs, .int mB, .ref aMl, .int mI, .ref aMx, .int mH, .int mQ, .int mW, .ref aMd, .int mF, .int mR, .int mD, .int mJ, .int mA, .int mT]))] [.ref aM, .int p1] sz) (QI D (TY K) (wf_X8_raises K aM aMn aMt aMk aMs aMl aMx aMd mU mB mI mH mQ mW mF mR mD mJ mA) v (va_A [(aM, .inr (6, [.ref aMn, .ref aMt, .ref aMk, .int mU, .ref aMs, .int mB, .ref aMl, .int mI, .ref aMx, .int mH, .int mQ, .int mW, .ref aMd, .int mF, .int mR, .int mD, .int mJ, .int mA, .int mT]))] sz)) MC_X8_raises MS_X8_raises (va_A [(aM, .inr (6, [.ref aMn, .ref aMt, .ref aMk, .int mU, .ref aMs, .int mB, .ref aMl, .int mI, .ref aMx, .int mH, .int mQ, .int mW, .ref aMd, .int mF, .int mR, .int mD, .int mJ, .int mA, .int mT]))] sz)) := by
  refine pro (Qf := fun A => QI D (TY K) (wf_X8_raises K aM aMn aMt aMk aMs aMl aMx aMd mU mB mI mH mQ mW mF mR mD mJ mA) v A) (cc := cX8_raises) (maxL := 2) (ret := (some .int)) (by decide +kernel) rfl (Nat.le_of_ble_eq_true rfl) ?_
  intro p e s m args below meth c hx hb hr hts hown hlocks hml hini hK A hA hE hP hD hS ls hl
  have hown : s.vm.findClass RX8 = some m.cls := hown
  have hl : lv_has ls 2 [(0, .ref aM), (1, .int p1)] := hl
  rw [f_X8_raises] at hF
  refine lv_aload_n hx hb dX8_raises_0 rfl (lv_at hl 0 rfl) ?_
  refine lv_iload_n hx hb dX8_raises_1 rfl (lv_at hl 1 rfl) ?_
  refine va_put (D := D) (ci := 6) (v := .int p1) (ty := .int) (C := RX8) (T := TX8) (N := 19) hx hb hts (fun _ h => List.mem_cons_of_mem _ (List.mem_append_right _ h)) tyX8 tyX8_ok nmX8 hown hK hP hD hS 0 rfl rfl 18 (by decide) (hts (.fieldLink RX8 36 "BarometerClubModel" "thrown" "I") (List.mem_of_getElem? (i := 1) rfl)) (fun _ h9 => h9) rfl (by decide +kernel) rfl rfl (Nat.le_of_ble_eq_true rfl) dX8_raises_2 (fun H locs hP hD hS => ?_)
  have hP : va_P D vwC7 [(aM, .inr (6, [.ref aMn, .ref aMt, .ref aMk, .int mU, .ref aMs, .int mB, .ref aMl, .int mI, .ref aMx, .int mH, .int mQ, .int mW, .ref aMd, .int mF, .int mR, .int mD, .int mJ, .int mA, .int p1]))] H := hP
  have hD : va_D A [(aM, .inr (6, [.ref aMn, .ref aMt, .ref aMk, .int mU, .ref aMs, .int mB, .ref aMl, .int mI, .ref aMx, .int mH, .int mQ, .int mW, .ref aMd, .int mF, .int mR, .int mD, .int mJ, .int mA, .int p1]))] := hD
  refine lv_iconst (v := (0 : Int32)) hx hb dX8_raises_5 (by decide) ?_
  exact fin_i (u := ((0 : Int32), p1)) hF hx hb hr hlocks hK hP hD hS (Nat.le_of_ble_eq_true rfl) (Nat.le_of_ble_eq_true rfl) dX8_raises_6
abbrev RM_X8_in : Room := { frames := 0, cells := 0, slots := 0, locals := 0 }
abbrev MC_X8_in : Nat := 0
abbrev MS_X8_in : Nat := 0
abbrev wf_X8_in (K : Nat → ClassId)   (v : Int32 × Unit) : va_W := []
set_option maxHeartbeats 4000000 in
set_option maxRecDepth 100000 in
theorem c_X8_in (l : Launch) (D : va_G) (K : Nat → ClassId)   (p1 : Int32) (p2 : Int32) (p3 : Int32) (v : Int32 × Unit) (hF : f_X8_in p1 p2 p3 = some v) (sz : Nat) :
    (Met l yX8_in wsX8_in RM_X8_in (PC D (TY K) [] [.int p1, .int p2, .int p3] sz) (QI D (TY K) (wf_X8_in K) v (va_A [] sz)) MC_X8_in MS_X8_in (va_A [] sz)) := by
  refine pro (Qf := fun A => QI D (TY K) (wf_X8_in K) v A) (cc := cX8_in) (maxL := 3) (ret := (some .boolean)) (by decide +kernel) rfl (Nat.le_of_ble_eq_true rfl) ?_
  intro p e s m args below meth c hx hb hr hts hown hlocks hml hini hK A hA hE hP hD hS ls hl
  have hown : s.vm.findClass RX8 = some m.cls := hown
  have hl : lv_has ls 3 [(0, .int p1), (1, .int p2), (2, .int p3)] := hl
  rw [f_X8_in] at hF
  refine lv_iload_n hx hb dX8_in_0 rfl (lv_at hl 0 rfl) ?_
  refine lv_iload_n hx hb dX8_in_1 rfl (lv_at hl 1 rfl) ?_
  refine lv_icmp_lt (tgt := 14) hx hb dX8_in_2 (by decide) (fun c1 => ?_) (fun c1 => ?_)
  · have hF := oT c1 hF
    refine lv_iconst (v := (0 : Int32)) hx hb dX8_in_14 (by decide) ?_
    exact fin_z (u := ((0 : Int32), ())) hF (okN_n (ty := .boolean) (x := (0 : Int32)) (by decide)) hx hb hr hlocks hK hP hD hS (Nat.le_of_ble_eq_true rfl) (Nat.le_of_ble_eq_true rfl) dX8_in_15
  · have hF := oF c1 hF
    refine lv_iload_n hx hb dX8_in_5 rfl (lv_at hl 0 rfl) ?_
    refine lv_iload_n hx hb dX8_in_6 rfl (lv_at hl 2 rfl) ?_
    refine lv_icmp_gt (tgt := 14) hx hb dX8_in_7 (by decide) (fun c2 => ?_) (fun c2 => ?_)
    · have hF := oT c2 hF
      refine lv_iconst (v := (0 : Int32)) hx hb dX8_in_14 (by decide) ?_
      exact fin_z (u := ((0 : Int32), ())) hF (okN_n (ty := .boolean) (x := (0 : Int32)) (by decide)) hx hb hr hlocks hK hP hD hS (Nat.le_of_ble_eq_true rfl) (Nat.le_of_ble_eq_true rfl) dX8_in_15
    · have hF := oF c2 hF
      refine lv_iconst (v := (1 : Int32)) hx hb dX8_in_10 (by decide) ?_
      refine lv_goto (tgt := 15) hx hb dX8_in_11 (by decide) ?_
      exact fin_z (u := ((1 : Int32), ())) hF (okN_n (ty := .boolean) (x := (1 : Int32)) (by decide)) hx hb hr hlocks hK hP hD hS (Nat.le_of_ble_eq_true rfl) (Nat.le_of_ble_eq_true rfl) dX8_in_15
abbrev RM_X8_tries : Room := { frames := 0, cells := 0, slots := 0, locals := 0 }
abbrev MC_X8_tries : Nat := 0
abbrev MS_X8_tries : Nat := 0
abbrev wf_X8_tries (K : Nat → ClassId) (aM : Nat) (aMn : Nat) (aMt : Nat) (aMk : Nat) (aMs : Nat) (aMl : Nat) (aMx : Nat) (aMd : Nat) (mU : Int32) (mB : Int32) (mI : Int32) (mH : Int32) (mQ : Int32) (mW : Int32) (mF : Int32) (mR : Int32) (mD : Int32) (mJ : Int32) (mA : Int32) (nN : Nat → Int32) (v : Int32 × (Nat → Int32)) : va_W := [(aM, .inr (6, [.ref aMn, .ref aMt, .ref aMk, .int mU, .ref aMs, .int mB, .ref aMl, .int mI, .ref aMx, .int mH, .int mQ, .int mW, .ref aMd, .int mF, .int mR, .int mD, .int mJ, .int mA, .int v.1])), (aMn, .inl (K 6, 55, .inl nN)), (aMt, .inl (K 7, 55, .inl v.2))]
set_option maxHeartbeats 4000000 in
set_option maxRecDepth 100000 in
theorem c_X8_tries (l : Launch) (D : va_G) (K : Nat → ClassId) (aM : Nat) (aMn : Nat) (aMt : Nat) (aMk : Nat) (aMs : Nat) (aMl : Nat) (aMx : Nat) (aMd : Nat) (mU : Int32) (mB : Int32) (mI : Int32) (mH : Int32) (mQ : Int32) (mW : Int32) (mF : Int32) (mR : Int32) (mD : Int32) (mJ : Int32) (mA : Int32) (mT : Int32) (nN : Nat → Int32) (nT : Nat → Int32)  (v : Int32 × (Nat → Int32)) (hF : f_X8_tries mT nN nT = some v) (sz : Nat) :
    (Met l yX8_tries wsX8_tries RM_X8_tries (PC D (TY K) [(aM, .inr (6, [.ref aMn, .ref aMt, .ref aMk, .int mU, .ref aMs, .int mB, .ref aMl, .int mI, .ref aMx, .int mH, .int mQ, .int mW, .ref aMd, .int mF, .int mR, .int mD, .int mJ, .int mA, .int mT])), (aMn, .inl (K 6, 55, .inl nN)), (aMt, .inl (K 7, 55, .inl nT))] [.ref aM] sz) (QV D (TY K) (wf_X8_tries K aM aMn aMt aMk aMs aMl aMx aMd mU mB mI mH mQ mW mF mR mD mJ mA nN) v (va_A [(aM, .inr (6, [.ref aMn, .ref aMt, .ref aMk, .int mU, .ref aMs, .int mB, .ref aMl, .int mI, .ref aMx, .int mH, .int mQ, .int mW, .ref aMd, .int mF, .int mR, .int mD, .int mJ, .int mA, .int mT])), (aMn, .inl (K 6, 55, .inl nN)), (aMt, .inl (K 7, 55, .inl nT))] sz)) MC_X8_tries MS_X8_tries (va_A [(aM, .inr (6, [.ref aMn, .ref aMt, .ref aMk, .int mU, .ref aMs, .int mB, .ref aMl, .int mI, .ref aMx, .int mH, .int mQ, .int mW, .ref aMd, .int mF, .int mR, .int mD, .int mJ, .int mA, .int mT])), (aMn, .inl (K 6, 55, .inl nN)), (aMt, .inl (K 7, 55, .inl nT))] sz)) := by
  refine pro (Qf := fun A => QV D (TY K) (wf_X8_tries K aM aMn aMt aMk aMs aMl aMx aMd mU mB mI mH mQ mW mF mR mD mJ mA nN) v A) (cc := cX8_tries) (maxL := 2) (ret := none) (by decide +kernel) rfl (Nat.le_of_ble_eq_true rfl) ?_
  intro p e s m args below meth c hx hb hr hts hown hlocks hml hini hK A hA hE hP hD hS ls hl
  have hown : s.vm.findClass RX8 = some m.cls := hown
  have hl : lv_has ls 2 [(0, .ref aM)] := hl
  have loop_7 : ∀ (mT_7 : Int32) (n : Nat) (y7_1 : Int32) (nT_7 : Nat → Int32), f_X8_tries_L7 nN mT_7 n y7_1 nT_7 = some v → ∀ (H : Heap) (locs : List Loc), va_P D vwC7 [(aM, .inr (6, [.ref aMn, .ref aMt, .ref aMk, .int mU, .ref aMs, .int mB, .ref aMl, .int mI, .ref aMx, .int mH, .int mQ, .int mW, .ref aMd, .int mF, .int mR, .int mD, .int mJ, .int mA, .int mT_7])), (aMn, .inl (K 6, 55, .inl nN)), (aMt, .inl (K 7, 55, .inl nT_7))] H → va_D A [(aM, .inr (6, [.ref aMn, .ref aMt, .ref aMk, .int mU, .ref aMs, .int mB, .ref aMl, .int mI, .ref aMx, .int mH, .int mQ, .int mW, .ref aMd, .int mF, .int mR, .int mD, .int mJ, .int mA, .int mT_7])), (aMn, .inl (K 6, 55, .inl nN)), (aMt, .inl (K 7, 55, .inl nT_7))] → va_S A s.heap H locs → ∀ ls : Array Slot, lv_has ls 2 [(0, .ref aM), (1, .int y7_1)] → W p l e RM_X8_tries s m args below meth c H locs 0 0 (MQ below (QV D (TY K) (wf_X8_tries K aM aMn aMt aMk aMs aMl aMx aMd mU mB mI mH mQ mW mF mR mD mJ mA nN) v A) args s MC_X8_tries MS_X8_tries A) (F0 m 7 ls []) := by
    intro mT_7 n
    induction n with
    | zero =>
      intro y7_1 nT_7 hF
      exact nomatch hF
    | succ n ih =>
      intro y7_1 nT_7 hF H locs hP hD hS ls hl
      rw [f_X8_tries_L7.eq_2] at hF
      refine lv_iload_n hx hb dX8_tries_7 rfl (lv_at hl 1 rfl) ?_
      refine lv_bipush (v := (55 : Int32)) hx hb dX8_tries_8 (by decide) ?_
      refine lv_icmp_ge (tgt := 31) hx hb dX8_tries_10 (by decide) (fun c1 => ?_) (fun c1 => ?_)
      · have hF := oT c1 hF
        exact fin_v (u := (mT_7, nT_7)) hF hx hb hr hlocks hK hP hD hS (Nat.le_of_ble_eq_true rfl) (Nat.le_of_ble_eq_true rfl) dX8_tries_31
      · have hF := oF c1 hF
        refine lv_aload_n hx hb dX8_tries_13 rfl (lv_at hl 0 rfl) ?_
        refine va_get (D := D) (ci := 6) (v := .ref aMt) (C := RX8) (T := TX8) (N := 19) hx hb hts (fun _ h => List.mem_cons_of_mem _ (List.mem_append_left _ (List.mem_append_right _ h))) hown hK hP 0 rfl rfl 1 (by decide) (hts (.fieldLink RX8 13 "BarometerClubModel" "tried" "[I") (List.mem_of_getElem? (i := 2) rfl)) (fun _ h9 => h9) rfl dX8_tries_14 ?_
        refine lv_iload_n hx hb dX8_tries_17 rfl (lv_at hl 1 rfl) ?_
        refine lv_aload_n hx hb dX8_tries_18 rfl (lv_at hl 0 rfl) ?_
        refine va_get (D := D) (ci := 6) (v := .ref aMn) (C := RX8) (T := TX8) (N := 19) hx hb hts (fun _ h => List.mem_cons_of_mem _ (List.mem_append_left _ (List.mem_append_right _ h))) hown hK hP 0 rfl rfl 0 (by decide) (hts (.fieldLink RX8 9 "BarometerClubModel" "now" "[I") (List.mem_of_getElem? (i := 3) rfl)) (fun _ h9 => h9) rfl dX8_tries_19 ?_
        refine lv_iload_n hx hb dX8_tries_22 rfl (lv_at hl 1 rfl) ?_
        obtain ⟨g2, hF⟩ := oG hF
        refine va_iald hx hb hK hP 1 6 rfl rfl (inB_in g2) dX8_tries_23 ?_
        obtain ⟨g3, hF⟩ := oG hF
        refine va_iast hx hb hK hP hD hS 2 7 rfl rfl (inB_in g3) dX8_tries_24 (fun H locs hP hD hS => ?_)
        have hP : va_P D vwC7 [(aM, .inr (6, [.ref aMn, .ref aMt, .ref aMk, .int mU, .ref aMs, .int mB, .ref aMl, .int mI, .ref aMx, .int mH, .int mQ, .int mW, .ref aMd, .int mF, .int mR, .int mD, .int mJ, .int mA, .int mT_7])), (aMn, .inl (K 6, 55, .inl nN)), (aMt, .inl (K 7, 55, .inl (upd nT_7 y7_1.toNatClampNeg (nN y7_1.toNatClampNeg))))] H := hP
        have hD : va_D A [(aM, .inr (6, [.ref aMn, .ref aMt, .ref aMk, .int mU, .ref aMs, .int mB, .ref aMl, .int mI, .ref aMx, .int mH, .int mQ, .int mW, .ref aMd, .int mF, .int mR, .int mD, .int mJ, .int mA, .int mT_7])), (aMn, .inl (K 6, 55, .inl nN)), (aMt, .inl (K 7, 55, .inl (upd nT_7 y7_1.toNatClampNeg (nN y7_1.toNatClampNeg))))] := hD
        refine lv_iinc (v := y7_1 + (1 : Int32)) (lv' := [(1, .int (y7_1 + (1 : Int32))), (0, .ref aM)]) hx hb dX8_tries_25 hl (k := 1) rfl (by first | rfl | decide) (by decide) rfl (fun ls hl => ?_)
        refine lv_goto (tgt := 7) hx hb dX8_tries_28 (by decide) ?_
        exact ih (y7_1 + (1 : Int32)) (upd nT_7 y7_1.toNatClampNeg (nN y7_1.toNatClampNeg)) hF _ _ hP hD hS _ (lv_sub hl [1, 0] rfl)
  rw [f_X8_tries] at hF
  refine lv_aload_n hx hb dX8_tries_0 rfl (lv_at hl 0 rfl) ?_
  refine lv_iconst (v := (0 : Int32)) hx hb dX8_tries_1 (by decide) ?_
  refine va_put (D := D) (ci := 6) (v := .int (0 : Int32)) (ty := .int) (C := RX8) (T := TX8) (N := 19) hx hb hts (fun _ h => List.mem_cons_of_mem _ (List.mem_append_left _ (List.mem_append_right _ h))) tyX8 tyX8_ok nmX8 hown hK hP hD hS 0 rfl rfl 18 (by decide) (hts (.fieldLink RX8 36 "BarometerClubModel" "thrown" "I") (List.mem_of_getElem? (i := 1) rfl)) (fun _ h9 => h9) rfl (by decide +kernel) rfl rfl (Nat.le_of_ble_eq_true rfl) dX8_tries_2 (fun H locs hP hD hS => ?_)
  have hP : va_P D vwC7 [(aM, .inr (6, [.ref aMn, .ref aMt, .ref aMk, .int mU, .ref aMs, .int mB, .ref aMl, .int mI, .ref aMx, .int mH, .int mQ, .int mW, .ref aMd, .int mF, .int mR, .int mD, .int mJ, .int mA, .int (0 : Int32)])), (aMn, .inl (K 6, 55, .inl nN)), (aMt, .inl (K 7, 55, .inl nT))] H := hP
  have hD : va_D A [(aM, .inr (6, [.ref aMn, .ref aMt, .ref aMk, .int mU, .ref aMs, .int mB, .ref aMl, .int mI, .ref aMx, .int mH, .int mQ, .int mW, .ref aMd, .int mF, .int mR, .int mD, .int mJ, .int mA, .int (0 : Int32)])), (aMn, .inl (K 6, 55, .inl nN)), (aMt, .inl (K 7, 55, .inl nT))] := hD
  refine lv_iconst (v := (0 : Int32)) hx hb dX8_tries_5 (by decide) ?_
  refine lv_istore_n (lv' := [(1, .int (0 : Int32)), (0, .ref aM)]) hx hb dX8_tries_6 rfl hl (by decide) rfl (fun ls hl => ?_)
  exact loop_7 (0 : Int32) FU (0 : Int32) nT hF _ _ hP hD hS _ (lv_sub hl [1, 0] rfl)
abbrev RM_X8_keeps : Room := { frames := 0, cells := 0, slots := 0, locals := 0 }
abbrev MC_X8_keeps : Nat := 0
abbrev MS_X8_keeps : Nat := 0
abbrev wf_X8_keeps (K : Nat → ClassId) (aM : Nat) (aMn : Nat) (aMt : Nat) (aMk : Nat) (aMs : Nat) (aMl : Nat) (aMx : Nat) (aMd : Nat) (mB : Int32) (mI : Int32) (mH : Int32) (mQ : Int32) (mW : Int32) (mF : Int32) (mR : Int32) (mD : Int32) (mJ : Int32) (mA : Int32) (mT : Int32) (nT : Nat → Int32) (v : Int32 × Int32 × (Nat → Int32)) : va_W := [(aM, .inr (6, [.ref aMn, .ref aMt, .ref aMk, .int v.2.1, .ref aMs, .int mB, .ref aMl, .int mI, .ref aMx, .int mH, .int mQ, .int mW, .ref aMd, .int mF, .int mR, .int mD, .int mJ, .int mA, .int mT])), (aMt, .inl (K 7, 55, .inl nT)), (aMk, .inl (K 8, 440, .inl v.2.2))]
set_option maxHeartbeats 4000000 in
set_option maxRecDepth 100000 in
theorem c_X8_keeps (l : Launch) (D : va_G) (K : Nat → ClassId) (aM : Nat) (aMn : Nat) (aMt : Nat) (aMk : Nat) (aMs : Nat) (aMl : Nat) (aMx : Nat) (aMd : Nat) (mU : Int32) (mB : Int32) (mI : Int32) (mH : Int32) (mQ : Int32) (mW : Int32) (mF : Int32) (mR : Int32) (mD : Int32) (mJ : Int32) (mA : Int32) (mT : Int32) (nT : Nat → Int32) (nK : Nat → Int32) (p1 : Int32) (v : Int32 × Int32 × (Nat → Int32)) (hF : f_X8_keeps mU nT nK p1 = some v) (sz : Nat) :
    (Met l yX8_keeps wsX8_keeps RM_X8_keeps (PC D (TY K) [(aM, .inr (6, [.ref aMn, .ref aMt, .ref aMk, .int mU, .ref aMs, .int mB, .ref aMl, .int mI, .ref aMx, .int mH, .int mQ, .int mW, .ref aMd, .int mF, .int mR, .int mD, .int mJ, .int mA, .int mT])), (aMt, .inl (K 7, 55, .inl nT)), (aMk, .inl (K 8, 440, .inl nK))] [.ref aM, .int p1] sz) (QI D (TY K) (wf_X8_keeps K aM aMn aMt aMk aMs aMl aMx aMd mB mI mH mQ mW mF mR mD mJ mA mT nT) v (va_A [(aM, .inr (6, [.ref aMn, .ref aMt, .ref aMk, .int mU, .ref aMs, .int mB, .ref aMl, .int mI, .ref aMx, .int mH, .int mQ, .int mW, .ref aMd, .int mF, .int mR, .int mD, .int mJ, .int mA, .int mT])), (aMt, .inl (K 7, 55, .inl nT)), (aMk, .inl (K 8, 440, .inl nK))] sz)) MC_X8_keeps MS_X8_keeps (va_A [(aM, .inr (6, [.ref aMn, .ref aMt, .ref aMk, .int mU, .ref aMs, .int mB, .ref aMl, .int mI, .ref aMx, .int mH, .int mQ, .int mW, .ref aMd, .int mF, .int mR, .int mD, .int mJ, .int mA, .int mT])), (aMt, .inl (K 7, 55, .inl nT)), (aMk, .inl (K 8, 440, .inl nK))] sz)) := by
  refine pro (Qf := fun A => QI D (TY K) (wf_X8_keeps K aM aMn aMt aMk aMs aMl aMx aMd mB mI mH mQ mW mF mR mD mJ mA mT nT) v A) (cc := cX8_keeps) (maxL := 3) (ret := (some .int)) (by decide +kernel) rfl (Nat.le_of_ble_eq_true rfl) ?_
  intro p e s m args below meth c hx hb hr hts hown hlocks hml hini hK A hA hE hP hD hS ls hl
  have hown : s.vm.findClass RX8 = some m.cls := hown
  have hl : lv_has ls 3 [(0, .ref aM), (1, .int p1)] := hl
  have loop_51 : ∀ (y51_1 : Int32) (mU_51 : Int32) (n : Nat) (y51_2 : Int32) (nK_51 : Nat → Int32), f_X8_keeps_L51 nT y51_1 mU_51 n y51_2 nK_51 = some v → ∀ (H : Heap) (locs : List Loc), va_P D vwC7 [(aM, .inr (6, [.ref aMn, .ref aMt, .ref aMk, .int mU_51, .ref aMs, .int mB, .ref aMl, .int mI, .ref aMx, .int mH, .int mQ, .int mW, .ref aMd, .int mF, .int mR, .int mD, .int mJ, .int mA, .int mT])), (aMt, .inl (K 7, 55, .inl nT)), (aMk, .inl (K 8, 440, .inl nK_51))] H → va_D A [(aM, .inr (6, [.ref aMn, .ref aMt, .ref aMk, .int mU_51, .ref aMs, .int mB, .ref aMl, .int mI, .ref aMx, .int mH, .int mQ, .int mW, .ref aMd, .int mF, .int mR, .int mD, .int mJ, .int mA, .int mT])), (aMt, .inl (K 7, 55, .inl nT)), (aMk, .inl (K 8, 440, .inl nK_51))] → va_S A s.heap H locs → ∀ ls : Array Slot, lv_has ls 3 [(0, .ref aM), (1, .int y51_1), (2, .int y51_2)] → W p l e RM_X8_keeps s m args below meth c H locs 0 0 (MQ below (QI D (TY K) (wf_X8_keeps K aM aMn aMt aMk aMs aMl aMx aMd mB mI mH mQ mW mF mR mD mJ mA mT nT) v A) args s MC_X8_keeps MS_X8_keeps A) (F0 m 51 ls []) := by
    intro y51_1 mU_51 n
    induction n with
    | zero =>
      intro y51_2 nK_51 hF
      exact nomatch hF
    | succ n ih =>
      intro y51_2 nK_51 hF H locs hP hD hS ls hl
      rw [f_X8_keeps_L51.eq_2] at hF
      refine lv_iload_n hx hb dX8_keeps_51 rfl (lv_at hl 2 rfl) ?_
      refine lv_bipush (v := (55 : Int32)) hx hb dX8_keeps_52 (by decide) ?_
      refine lv_icmp_ge (tgt := 83) hx hb dX8_keeps_54 (by decide) (fun c2 => ?_) (fun c2 => ?_)
      · have hF := oT c2 hF
        refine lv_aload_n hx hb dX8_keeps_83 rfl (lv_at hl 0 rfl) ?_
        refine lv_dup hx hb dX8_keeps_84 rfl ?_
        refine va_get (D := D) (ci := 6) (v := .int mU_51) (C := RX8) (T := TX8) (N := 19) hx hb hts (fun _ h => List.mem_cons_of_mem _ (List.mem_append_left _ (List.mem_append_right _ h))) hown hK hP 0 rfl rfl 3 (by decide) (hts (.fieldLink RX8 39 "BarometerClubModel" "undos" "I") (List.mem_of_getElem? (i := 1) rfl)) (fun _ h9 => h9) rfl dX8_keeps_85 ?_
        refine lv_iconst (v := (1 : Int32)) hx hb dX8_keeps_88 (by decide) ?_
        refine lv_iadd hx hb dX8_keeps_89 ?_
        refine va_put (D := D) (ci := 6) (v := .int (mU_51 + (1 : Int32))) (ty := .int) (C := RX8) (T := TX8) (N := 19) hx hb hts (fun _ h => List.mem_cons_of_mem _ (List.mem_append_left _ (List.mem_append_right _ h))) tyX8 tyX8_ok nmX8 hown hK hP hD hS 0 rfl rfl 3 (by decide) (hts (.fieldLink RX8 39 "BarometerClubModel" "undos" "I") (List.mem_of_getElem? (i := 1) rfl)) (fun _ h9 => h9) rfl (by decide +kernel) rfl rfl (Nat.le_of_ble_eq_true rfl) dX8_keeps_90 (fun H locs hP hD hS => ?_)
        have hP : va_P D vwC7 [(aM, .inr (6, [.ref aMn, .ref aMt, .ref aMk, .int (mU_51 + (1 : Int32)), .ref aMs, .int mB, .ref aMl, .int mI, .ref aMx, .int mH, .int mQ, .int mW, .ref aMd, .int mF, .int mR, .int mD, .int mJ, .int mA, .int mT])), (aMt, .inl (K 7, 55, .inl nT)), (aMk, .inl (K 8, 440, .inl nK_51))] H := hP
        have hD : va_D A [(aM, .inr (6, [.ref aMn, .ref aMt, .ref aMk, .int (mU_51 + (1 : Int32)), .ref aMs, .int mB, .ref aMl, .int mI, .ref aMx, .int mH, .int mQ, .int mW, .ref aMd, .int mF, .int mR, .int mD, .int mJ, .int mA, .int mT])), (aMt, .inl (K 7, 55, .inl nT)), (aMk, .inl (K 8, 440, .inl nK_51))] := hD
        refine lv_iload_n hx hb dX8_keeps_93 rfl (lv_at hl 1 rfl) ?_
        exact fin_i (u := (y51_1, (mU_51 + (1 : Int32), nK_51))) hF hx hb hr hlocks hK hP hD hS (Nat.le_of_ble_eq_true rfl) (Nat.le_of_ble_eq_true rfl) dX8_keeps_94
      · have hF := oF c2 hF
        refine lv_aload_n hx hb dX8_keeps_57 rfl (lv_at hl 0 rfl) ?_
        refine va_get (D := D) (ci := 6) (v := .ref aMk) (C := RX8) (T := TX8) (N := 19) hx hb hts (fun _ h => List.mem_cons_of_mem _ (List.mem_append_left _ (List.mem_append_right _ h))) hown hK hP 0 rfl rfl 2 (by decide) (hts (.fieldLink RX8 16 "BarometerClubModel" "kept" "[I") (List.mem_of_getElem? (i := 2) rfl)) (fun _ h9 => h9) rfl dX8_keeps_58 ?_
        refine lv_bipush (v := (55 : Int32)) hx hb dX8_keeps_61 (by decide) ?_
        refine lv_aload_n hx hb dX8_keeps_63 rfl (lv_at hl 0 rfl) ?_
        refine va_get (D := D) (ci := 6) (v := .int mU_51) (C := RX8) (T := TX8) (N := 19) hx hb hts (fun _ h => List.mem_cons_of_mem _ (List.mem_append_left _ (List.mem_append_right _ h))) hown hK hP 0 rfl rfl 3 (by decide) (hts (.fieldLink RX8 39 "BarometerClubModel" "undos" "I") (List.mem_of_getElem? (i := 1) rfl)) (fun _ h9 => h9) rfl dX8_keeps_64 ?_
        refine lv_imul hx hb dX8_keeps_67 ?_
        refine lv_iload_n hx hb dX8_keeps_68 rfl (lv_at hl 2 rfl) ?_
        refine lv_iadd hx hb dX8_keeps_69 ?_
        refine lv_aload_n hx hb dX8_keeps_70 rfl (lv_at hl 0 rfl) ?_
        refine va_get (D := D) (ci := 6) (v := .ref aMt) (C := RX8) (T := TX8) (N := 19) hx hb hts (fun _ h => List.mem_cons_of_mem _ (List.mem_append_left _ (List.mem_append_right _ h))) hown hK hP 0 rfl rfl 1 (by decide) (hts (.fieldLink RX8 13 "BarometerClubModel" "tried" "[I") (List.mem_of_getElem? (i := 3) rfl)) (fun _ h9 => h9) rfl dX8_keeps_71 ?_
        refine lv_iload_n hx hb dX8_keeps_74 rfl (lv_at hl 2 rfl) ?_
        obtain ⟨g3, hF⟩ := oG hF
        refine va_iald hx hb hK hP 1 7 rfl rfl (inB_in g3) dX8_keeps_75 ?_
        obtain ⟨g4, hF⟩ := oG hF
        refine va_iast hx hb hK hP hD hS 2 8 rfl rfl (inB_in g4) dX8_keeps_76 (fun H locs hP hD hS => ?_)
        have hP : va_P D vwC7 [(aM, .inr (6, [.ref aMn, .ref aMt, .ref aMk, .int mU_51, .ref aMs, .int mB, .ref aMl, .int mI, .ref aMx, .int mH, .int mQ, .int mW, .ref aMd, .int mF, .int mR, .int mD, .int mJ, .int mA, .int mT])), (aMt, .inl (K 7, 55, .inl nT)), (aMk, .inl (K 8, 440, .inl (upd nK_51 (((55 : Int32) * mU_51) + y51_2).toNatClampNeg (nT y51_2.toNatClampNeg))))] H := hP
        have hD : va_D A [(aM, .inr (6, [.ref aMn, .ref aMt, .ref aMk, .int mU_51, .ref aMs, .int mB, .ref aMl, .int mI, .ref aMx, .int mH, .int mQ, .int mW, .ref aMd, .int mF, .int mR, .int mD, .int mJ, .int mA, .int mT])), (aMt, .inl (K 7, 55, .inl nT)), (aMk, .inl (K 8, 440, .inl (upd nK_51 (((55 : Int32) * mU_51) + y51_2).toNatClampNeg (nT y51_2.toNatClampNeg))))] := hD
        refine lv_iinc (v := y51_2 + (1 : Int32)) (lv' := [(2, .int (y51_2 + (1 : Int32))), (0, .ref aM), (1, .int y51_1)]) hx hb dX8_keeps_77 hl (k := 2) rfl (by first | rfl | decide) (by decide) rfl (fun ls hl => ?_)
        refine lv_goto (tgt := 51) hx hb dX8_keeps_80 (by decide) ?_
        exact ih (y51_2 + (1 : Int32)) (upd nK_51 (((55 : Int32) * mU_51) + y51_2).toNatClampNeg (nT y51_2.toNatClampNeg)) hF _ _ hP hD hS _ (lv_sub hl [1, 2, 0] rfl)
  have loop_11 : ∀ (y11_1 : Int32) (mU_11 : Int32) (n : Nat) (y11_2 : Int32) (nK_11 : Nat → Int32), f_X8_keeps_L11 nT y11_1 mU_11 n y11_2 nK_11 = some v → ∀ (H : Heap) (locs : List Loc), va_P D vwC7 [(aM, .inr (6, [.ref aMn, .ref aMt, .ref aMk, .int mU_11, .ref aMs, .int mB, .ref aMl, .int mI, .ref aMx, .int mH, .int mQ, .int mW, .ref aMd, .int mF, .int mR, .int mD, .int mJ, .int mA, .int mT])), (aMt, .inl (K 7, 55, .inl nT)), (aMk, .inl (K 8, 440, .inl nK_11))] H → va_D A [(aM, .inr (6, [.ref aMn, .ref aMt, .ref aMk, .int mU_11, .ref aMs, .int mB, .ref aMl, .int mI, .ref aMx, .int mH, .int mQ, .int mW, .ref aMd, .int mF, .int mR, .int mD, .int mJ, .int mA, .int mT])), (aMt, .inl (K 7, 55, .inl nT)), (aMk, .inl (K 8, 440, .inl nK_11))] → va_S A s.heap H locs → ∀ ls : Array Slot, lv_has ls 3 [(0, .ref aM), (1, .int y11_1), (2, .int y11_2)] → W p l e RM_X8_keeps s m args below meth c H locs 0 0 (MQ below (QI D (TY K) (wf_X8_keeps K aM aMn aMt aMk aMs aMl aMx aMd mB mI mH mQ mW mF mR mD mJ mA mT nT) v A) args s MC_X8_keeps MS_X8_keeps A) (F0 m 11 ls []) := by
    intro y11_1 mU_11 n
    induction n with
    | zero =>
      intro y11_2 nK_11 hF
      exact nomatch hF
    | succ n ih =>
      intro y11_2 nK_11 hF H locs hP hD hS ls hl
      rw [f_X8_keeps_L11.eq_2] at hF
      refine lv_iload_n hx hb dX8_keeps_11 rfl (lv_at hl 2 rfl) ?_
      refine lv_sipush (v := (385 : Int32)) hx hb dX8_keeps_12 (by decide) ?_
      refine lv_icmp_ge (tgt := 39) hx hb dX8_keeps_15 (by decide) (fun c5 => ?_) (fun c5 => ?_)
      · have hF := oT c5 hF
        refine lv_aload_n hx hb dX8_keeps_39 rfl (lv_at hl 0 rfl) ?_
        refine lv_dup hx hb dX8_keeps_40 rfl ?_
        refine va_get (D := D) (ci := 6) (v := .int mU_11) (C := RX8) (T := TX8) (N := 19) hx hb hts (fun _ h => List.mem_cons_of_mem _ (List.mem_append_left _ (List.mem_append_right _ h))) hown hK hP 0 rfl rfl 3 (by decide) (hts (.fieldLink RX8 39 "BarometerClubModel" "undos" "I") (List.mem_of_getElem? (i := 1) rfl)) (fun _ h9 => h9) rfl dX8_keeps_41 ?_
        refine lv_iconst (v := (1 : Int32)) hx hb dX8_keeps_44 (by decide) ?_
        refine lv_isub hx hb dX8_keeps_45 ?_
        refine va_put (D := D) (ci := 6) (v := .int (mU_11 - (1 : Int32))) (ty := .int) (C := RX8) (T := TX8) (N := 19) hx hb hts (fun _ h => List.mem_cons_of_mem _ (List.mem_append_left _ (List.mem_append_right _ h))) tyX8 tyX8_ok nmX8 hown hK hP hD hS 0 rfl rfl 3 (by decide) (hts (.fieldLink RX8 39 "BarometerClubModel" "undos" "I") (List.mem_of_getElem? (i := 1) rfl)) (fun _ h9 => h9) rfl (by decide +kernel) rfl rfl (Nat.le_of_ble_eq_true rfl) dX8_keeps_46 (fun H locs hP hD hS => ?_)
        have hP : va_P D vwC7 [(aM, .inr (6, [.ref aMn, .ref aMt, .ref aMk, .int (mU_11 - (1 : Int32)), .ref aMs, .int mB, .ref aMl, .int mI, .ref aMx, .int mH, .int mQ, .int mW, .ref aMd, .int mF, .int mR, .int mD, .int mJ, .int mA, .int mT])), (aMt, .inl (K 7, 55, .inl nT)), (aMk, .inl (K 8, 440, .inl nK_11))] H := hP
        have hD : va_D A [(aM, .inr (6, [.ref aMn, .ref aMt, .ref aMk, .int (mU_11 - (1 : Int32)), .ref aMs, .int mB, .ref aMl, .int mI, .ref aMx, .int mH, .int mQ, .int mW, .ref aMd, .int mF, .int mR, .int mD, .int mJ, .int mA, .int mT])), (aMt, .inl (K 7, 55, .inl nT)), (aMk, .inl (K 8, 440, .inl nK_11))] := hD
        refine lv_iconst (v := (0 : Int32)) hx hb dX8_keeps_49 (by decide) ?_
        refine lv_istore_n (lv' := [(2, .int (0 : Int32)), (0, .ref aM), (1, .int y11_1)]) hx hb dX8_keeps_50 rfl hl (by decide) rfl (fun ls hl => ?_)
        exact loop_51 y11_1 (mU_11 - (1 : Int32)) FU (0 : Int32) nK_11 hF _ _ hP hD hS _ (lv_sub hl [1, 2, 0] rfl)
      · have hF := oF c5 hF
        refine lv_aload_n hx hb dX8_keeps_18 rfl (lv_at hl 0 rfl) ?_
        refine va_get (D := D) (ci := 6) (v := .ref aMk) (C := RX8) (T := TX8) (N := 19) hx hb hts (fun _ h => List.mem_cons_of_mem _ (List.mem_append_left _ (List.mem_append_right _ h))) hown hK hP 0 rfl rfl 2 (by decide) (hts (.fieldLink RX8 16 "BarometerClubModel" "kept" "[I") (List.mem_of_getElem? (i := 2) rfl)) (fun _ h9 => h9) rfl dX8_keeps_19 ?_
        refine lv_iload_n hx hb dX8_keeps_22 rfl (lv_at hl 2 rfl) ?_
        refine lv_aload_n hx hb dX8_keeps_23 rfl (lv_at hl 0 rfl) ?_
        refine va_get (D := D) (ci := 6) (v := .ref aMk) (C := RX8) (T := TX8) (N := 19) hx hb hts (fun _ h => List.mem_cons_of_mem _ (List.mem_append_left _ (List.mem_append_right _ h))) hown hK hP 0 rfl rfl 2 (by decide) (hts (.fieldLink RX8 16 "BarometerClubModel" "kept" "[I") (List.mem_of_getElem? (i := 2) rfl)) (fun _ h9 => h9) rfl dX8_keeps_24 ?_
        refine lv_bipush (v := (55 : Int32)) hx hb dX8_keeps_27 (by decide) ?_
        refine lv_iload_n hx hb dX8_keeps_29 rfl (lv_at hl 2 rfl) ?_
        refine lv_iadd hx hb dX8_keeps_30 ?_
        obtain ⟨g6, hF⟩ := oG hF
        refine va_iald hx hb hK hP 2 8 rfl rfl (inB_in g6) dX8_keeps_31 ?_
        obtain ⟨g7, hF⟩ := oG hF
        refine va_iast hx hb hK hP hD hS 2 8 rfl rfl (inB_in g7) dX8_keeps_32 (fun H locs hP hD hS => ?_)
        have hP : va_P D vwC7 [(aM, .inr (6, [.ref aMn, .ref aMt, .ref aMk, .int mU_11, .ref aMs, .int mB, .ref aMl, .int mI, .ref aMx, .int mH, .int mQ, .int mW, .ref aMd, .int mF, .int mR, .int mD, .int mJ, .int mA, .int mT])), (aMt, .inl (K 7, 55, .inl nT)), (aMk, .inl (K 8, 440, .inl (upd nK_11 y11_2.toNatClampNeg (nK_11 ((55 : Int32) + y11_2).toNatClampNeg))))] H := hP
        have hD : va_D A [(aM, .inr (6, [.ref aMn, .ref aMt, .ref aMk, .int mU_11, .ref aMs, .int mB, .ref aMl, .int mI, .ref aMx, .int mH, .int mQ, .int mW, .ref aMd, .int mF, .int mR, .int mD, .int mJ, .int mA, .int mT])), (aMt, .inl (K 7, 55, .inl nT)), (aMk, .inl (K 8, 440, .inl (upd nK_11 y11_2.toNatClampNeg (nK_11 ((55 : Int32) + y11_2).toNatClampNeg))))] := hD
        refine lv_iinc (v := y11_2 + (1 : Int32)) (lv' := [(2, .int (y11_2 + (1 : Int32))), (0, .ref aM), (1, .int y11_1)]) hx hb dX8_keeps_33 hl (k := 2) rfl (by first | rfl | decide) (by decide) rfl (fun ls hl => ?_)
        refine lv_goto (tgt := 11) hx hb dX8_keeps_36 (by decide) ?_
        exact ih (y11_2 + (1 : Int32)) (upd nK_11 y11_2.toNatClampNeg (nK_11 ((55 : Int32) + y11_2).toNatClampNeg)) hF _ _ hP hD hS _ (lv_sub hl [1, 2, 0] rfl)
  rw [f_X8_keeps] at hF
  refine lv_aload_n hx hb dX8_keeps_0 rfl (lv_at hl 0 rfl) ?_
  refine va_get (D := D) (ci := 6) (v := .int mU) (C := RX8) (T := TX8) (N := 19) hx hb hts (fun _ h => List.mem_cons_of_mem _ (List.mem_append_left _ (List.mem_append_right _ h))) hown hK hP 0 rfl rfl 3 (by decide) (hts (.fieldLink RX8 39 "BarometerClubModel" "undos" "I") (List.mem_of_getElem? (i := 1) rfl)) (fun _ h9 => h9) rfl dX8_keeps_1 ?_
  refine lv_bipush (v := (8 : Int32)) hx hb dX8_keeps_4 (by decide) ?_
  refine lv_icmp_ne (tgt := 49) hx hb dX8_keeps_6 (by decide) (fun c1 => ?_) (fun c1 => ?_)
  · have hF := oF c1 hF
    refine lv_iconst (v := (0 : Int32)) hx hb dX8_keeps_49 (by decide) ?_
    refine lv_istore_n (lv' := [(2, .int (0 : Int32)), (0, .ref aM), (1, .int p1)]) hx hb dX8_keeps_50 rfl hl (by decide) rfl (fun ls hl => ?_)
    exact loop_51 p1 mU FU (0 : Int32) nK hF _ _ hP hD hS _ (lv_sub hl [1, 2, 0] rfl)
  · have hF := oT c1 hF
    refine lv_iconst (v := (0 : Int32)) hx hb dX8_keeps_9 (by decide) ?_
    refine lv_istore_n (lv' := [(2, .int (0 : Int32)), (0, .ref aM), (1, .int p1)]) hx hb dX8_keeps_10 rfl hl (by decide) rfl (fun ls hl => ?_)
    exact loop_11 p1 mU FU (0 : Int32) nK hF _ _ hP hD hS _ (lv_sub hl [1, 2, 0] rfl)
abbrev RM_X8_does : Room := { frames := 0, cells := 0, slots := 0, locals := 0 }
abbrev MC_X8_does : Nat := 0
abbrev MS_X8_does : Nat := 0
abbrev wf_X8_does (K : Nat → ClassId) (aM : Nat) (aMn : Nat) (aMt : Nat) (aMk : Nat) (aMs : Nat) (aMl : Nat) (aMx : Nat) (aMd : Nat) (mU : Int32) (mB : Int32) (mI : Int32) (mH : Int32) (mQ : Int32) (mW : Int32) (mF : Int32) (mR : Int32) (mD : Int32) (mJ : Int32) (mT : Int32) (v : Int32 × Int32) : va_W := [(aM, .inr (6, [.ref aMn, .ref aMt, .ref aMk, .int mU, .ref aMs, .int mB, .ref aMl, .int mI, .ref aMx, .int mH, .int mQ, .int mW, .ref aMd, .int mF, .int mR, .int mD, .int mJ, .int v.2, .int mT]))]
set_option maxHeartbeats 4000000 in
set_option maxRecDepth 100000 in
theorem c_X8_does (l : Launch) (D : va_G) (K : Nat → ClassId) (aM : Nat) (aMn : Nat) (aMt : Nat) (aMk : Nat) (aMs : Nat) (aMl : Nat) (aMx : Nat) (aMd : Nat) (mU : Int32) (mB : Int32) (mI : Int32) (mH : Int32) (mQ : Int32) (mW : Int32) (mF : Int32) (mR : Int32) (mD : Int32) (mJ : Int32) (mA : Int32) (mT : Int32) (p1 : Int32) (v : Int32 × Int32) (hF : f_X8_does mA p1 = some v) (sz : Nat) :
    (Met l yX8_does wsX8_does RM_X8_does (PC D (TY K) [(aM, .inr (6, [.ref aMn, .ref aMt, .ref aMk, .int mU, .ref aMs, .int mB, .ref aMl, .int mI, .ref aMx, .int mH, .int mQ, .int mW, .ref aMd, .int mF, .int mR, .int mD, .int mJ, .int mA, .int mT]))] [.ref aM, .int p1] sz) (QI D (TY K) (wf_X8_does K aM aMn aMt aMk aMs aMl aMx aMd mU mB mI mH mQ mW mF mR mD mJ mT) v (va_A [(aM, .inr (6, [.ref aMn, .ref aMt, .ref aMk, .int mU, .ref aMs, .int mB, .ref aMl, .int mI, .ref aMx, .int mH, .int mQ, .int mW, .ref aMd, .int mF, .int mR, .int mD, .int mJ, .int mA, .int mT]))] sz)) MC_X8_does MS_X8_does (va_A [(aM, .inr (6, [.ref aMn, .ref aMt, .ref aMk, .int mU, .ref aMs, .int mB, .ref aMl, .int mI, .ref aMx, .int mH, .int mQ, .int mW, .ref aMd, .int mF, .int mR, .int mD, .int mJ, .int mA, .int mT]))] sz)) := by
  refine pro (Qf := fun A => QI D (TY K) (wf_X8_does K aM aMn aMt aMk aMs aMl aMx aMd mU mB mI mH mQ mW mF mR mD mJ mT) v A) (cc := cX8_does) (maxL := 2) (ret := (some .boolean)) (by decide +kernel) rfl (Nat.le_of_ble_eq_true rfl) ?_
  intro p e s m args below meth c hx hb hr hts hown hlocks hml hini hK A hA hE hP hD hS ls hl
  have hown : s.vm.findClass RX8 = some m.cls := hown
  have hl : lv_has ls 2 [(0, .ref aM), (1, .int p1)] := hl
  rw [f_X8_does] at hF
  refine lv_aload_n hx hb dX8_does_0 rfl (lv_at hl 0 rfl) ?_
  refine lv_iload_n hx hb dX8_does_1 rfl (lv_at hl 1 rfl) ?_
  refine va_put (D := D) (ci := 6) (v := .int p1) (ty := .int) (C := RX8) (T := TX8) (N := 19) hx hb hts (fun _ h => List.mem_cons_of_mem _ (List.mem_append_right _ h)) tyX8 tyX8_ok nmX8 hown hK hP hD hS 0 rfl rfl 17 (by decide) (hts (.fieldLink RX8 42 "BarometerClubModel" "answer" "I") (List.mem_of_getElem? (i := 1) rfl)) (fun _ h9 => h9) rfl (by decide +kernel) rfl rfl (Nat.le_of_ble_eq_true rfl) dX8_does_2 (fun H locs hP hD hS => ?_)
  have hP : va_P D vwC7 [(aM, .inr (6, [.ref aMn, .ref aMt, .ref aMk, .int mU, .ref aMs, .int mB, .ref aMl, .int mI, .ref aMx, .int mH, .int mQ, .int mW, .ref aMd, .int mF, .int mR, .int mD, .int mJ, .int p1, .int mT]))] H := hP
  have hD : va_D A [(aM, .inr (6, [.ref aMn, .ref aMt, .ref aMk, .int mU, .ref aMs, .int mB, .ref aMl, .int mI, .ref aMx, .int mH, .int mQ, .int mW, .ref aMd, .int mF, .int mR, .int mD, .int mJ, .int p1, .int mT]))] := hD
  refine lv_iconst (v := (1 : Int32)) hx hb dX8_does_5 (by decide) ?_
  exact fin_z (u := ((1 : Int32), p1)) hF (okN_n (ty := .boolean) (x := (1 : Int32)) (by decide)) hx hb hr hlocks hK hP hD hS (Nat.le_of_ble_eq_true rfl) (Nat.le_of_ble_eq_true rfl) dX8_does_6
abbrev RM_X8_refuses : Room := { frames := 0, cells := 0, slots := 0, locals := 0 }
abbrev MC_X8_refuses : Nat := 0
abbrev MS_X8_refuses : Nat := 0
abbrev wf_X8_refuses (K : Nat → ClassId) (aM : Nat) (aMn : Nat) (aMt : Nat) (aMk : Nat) (aMs : Nat) (aMl : Nat) (aMx : Nat) (aMd : Nat) (mU : Int32) (mB : Int32) (mI : Int32) (mH : Int32) (mQ : Int32) (mW : Int32) (mF : Int32) (mA : Int32) (mT : Int32) (v : Int32 × Int32 × Int32 × Int32) : va_W := [(aM, .inr (6, [.ref aMn, .ref aMt, .ref aMk, .int mU, .ref aMs, .int mB, .ref aMl, .int mI, .ref aMx, .int mH, .int mQ, .int mW, .ref aMd, .int mF, .int v.2.1, .int v.2.2.1, .int v.2.2.2, .int mA, .int mT]))]
set_option maxHeartbeats 4000000 in
set_option maxRecDepth 100000 in
theorem c_X8_refuses (l : Launch) (D : va_G) (K : Nat → ClassId) (aM : Nat) (aMn : Nat) (aMt : Nat) (aMk : Nat) (aMs : Nat) (aMl : Nat) (aMx : Nat) (aMd : Nat) (mU : Int32) (mB : Int32) (mI : Int32) (mH : Int32) (mQ : Int32) (mW : Int32) (mF : Int32) (mR : Int32) (mD : Int32) (mJ : Int32) (mA : Int32) (mT : Int32) (p1 : Int32) (p2 : Int32) (v : Int32 × Int32 × Int32 × Int32) (hF : f_X8_refuses mR mD mJ p1 p2 = some v) (sz : Nat) :
    (Met l yX8_refuses wsX8_refuses RM_X8_refuses (PC D (TY K) [(aM, .inr (6, [.ref aMn, .ref aMt, .ref aMk, .int mU, .ref aMs, .int mB, .ref aMl, .int mI, .ref aMx, .int mH, .int mQ, .int mW, .ref aMd, .int mF, .int mR, .int mD, .int mJ, .int mA, .int mT]))] [.ref aM, .int p1, .int p2] sz) (QI D (TY K) (wf_X8_refuses K aM aMn aMt aMk aMs aMl aMx aMd mU mB mI mH mQ mW mF mA mT) v (va_A [(aM, .inr (6, [.ref aMn, .ref aMt, .ref aMk, .int mU, .ref aMs, .int mB, .ref aMl, .int mI, .ref aMx, .int mH, .int mQ, .int mW, .ref aMd, .int mF, .int mR, .int mD, .int mJ, .int mA, .int mT]))] sz)) MC_X8_refuses MS_X8_refuses (va_A [(aM, .inr (6, [.ref aMn, .ref aMt, .ref aMk, .int mU, .ref aMs, .int mB, .ref aMl, .int mI, .ref aMx, .int mH, .int mQ, .int mW, .ref aMd, .int mF, .int mR, .int mD, .int mJ, .int mA, .int mT]))] sz)) := by
  refine pro (Qf := fun A => QI D (TY K) (wf_X8_refuses K aM aMn aMt aMk aMs aMl aMx aMd mU mB mI mH mQ mW mF mA mT) v A) (cc := cX8_refuses) (maxL := 3) (ret := (some .boolean)) (by decide +kernel) rfl (Nat.le_of_ble_eq_true rfl) ?_
  intro p e s m args below meth c hx hb hr hts hown hlocks hml hini hK A hA hE hP hD hS ls hl
  have hown : s.vm.findClass RX8 = some m.cls := hown
  have hl : lv_has ls 3 [(0, .ref aM), (1, .int p1), (2, .int p2)] := hl
  rw [f_X8_refuses] at hF
  refine lv_aload_n hx hb dX8_refuses_0 rfl (lv_at hl 0 rfl) ?_
  refine lv_iload_n hx hb dX8_refuses_1 rfl (lv_at hl 1 rfl) ?_
  refine va_put (D := D) (ci := 6) (v := .int p1) (ty := .int) (C := RX8) (T := TX8) (N := 19) hx hb hts (fun _ h => List.mem_cons_of_mem _ (List.mem_append_right _ h)) tyX8 tyX8_ok nmX8 hown hK hP hD hS 0 rfl rfl 14 (by decide) (hts (.fieldLink RX8 45 "BarometerClubModel" "reason" "I") (List.mem_of_getElem? (i := 1) rfl)) (fun _ h9 => h9) rfl (by decide +kernel) rfl rfl (Nat.le_of_ble_eq_true rfl) dX8_refuses_2 (fun H locs hP hD hS => ?_)
  have hP : va_P D vwC7 [(aM, .inr (6, [.ref aMn, .ref aMt, .ref aMk, .int mU, .ref aMs, .int mB, .ref aMl, .int mI, .ref aMx, .int mH, .int mQ, .int mW, .ref aMd, .int mF, .int p1, .int mD, .int mJ, .int mA, .int mT]))] H := hP
  have hD : va_D A [(aM, .inr (6, [.ref aMn, .ref aMt, .ref aMk, .int mU, .ref aMs, .int mB, .ref aMl, .int mI, .ref aMx, .int mH, .int mQ, .int mW, .ref aMd, .int mF, .int p1, .int mD, .int mJ, .int mA, .int mT]))] := hD
  refine lv_aload_n hx hb dX8_refuses_5 rfl (lv_at hl 0 rfl) ?_
  refine lv_iload_n hx hb dX8_refuses_6 rfl (lv_at hl 2 rfl) ?_
  refine va_put (D := D) (ci := 6) (v := .int p2) (ty := .int) (C := RX8) (T := TX8) (N := 19) hx hb hts (fun _ h => List.mem_cons_of_mem _ (List.mem_append_right _ h)) tyX8 tyX8_ok nmX8 hown hK hP hD hS 0 rfl rfl 15 (by decide) (hts (.fieldLink RX8 48 "BarometerClubModel" "detail" "I") (List.mem_of_getElem? (i := 2) rfl)) (fun _ h9 => h9) rfl (by decide +kernel) rfl rfl (Nat.le_of_ble_eq_true rfl) dX8_refuses_7 (fun H locs hP hD hS => ?_)
  have hP : va_P D vwC7 [(aM, .inr (6, [.ref aMn, .ref aMt, .ref aMk, .int mU, .ref aMs, .int mB, .ref aMl, .int mI, .ref aMx, .int mH, .int mQ, .int mW, .ref aMd, .int mF, .int p1, .int p2, .int mJ, .int mA, .int mT]))] H := hP
  have hD : va_D A [(aM, .inr (6, [.ref aMn, .ref aMt, .ref aMk, .int mU, .ref aMs, .int mB, .ref aMl, .int mI, .ref aMx, .int mH, .int mQ, .int mW, .ref aMd, .int mF, .int p1, .int p2, .int mJ, .int mA, .int mT]))] := hD
  refine lv_aload_n hx hb dX8_refuses_10 rfl (lv_at hl 0 rfl) ?_
  refine lv_iconst (v := (0 : Int32)) hx hb dX8_refuses_11 (by decide) ?_
  refine va_put (D := D) (ci := 6) (v := .int (0 : Int32)) (ty := .int) (C := RX8) (T := TX8) (N := 19) hx hb hts (fun _ h => List.mem_cons_of_mem _ (List.mem_append_right _ h)) tyX8 tyX8_ok nmX8 hown hK hP hD hS 0 rfl rfl 16 (by decide) (hts (.fieldLink RX8 51 "BarometerClubModel" "index" "I") (List.mem_of_getElem? (i := 3) rfl)) (fun _ h9 => h9) rfl (by decide +kernel) rfl rfl (Nat.le_of_ble_eq_true rfl) dX8_refuses_12 (fun H locs hP hD hS => ?_)
  have hP : va_P D vwC7 [(aM, .inr (6, [.ref aMn, .ref aMt, .ref aMk, .int mU, .ref aMs, .int mB, .ref aMl, .int mI, .ref aMx, .int mH, .int mQ, .int mW, .ref aMd, .int mF, .int p1, .int p2, .int (0 : Int32), .int mA, .int mT]))] H := hP
  have hD : va_D A [(aM, .inr (6, [.ref aMn, .ref aMt, .ref aMk, .int mU, .ref aMs, .int mB, .ref aMl, .int mI, .ref aMx, .int mH, .int mQ, .int mW, .ref aMd, .int mF, .int p1, .int p2, .int (0 : Int32), .int mA, .int mT]))] := hD
  refine lv_iconst (v := (0 : Int32)) hx hb dX8_refuses_15 (by decide) ?_
  exact fin_z (u := ((0 : Int32), (p1, p2, (0 : Int32)))) hF (okN_n (ty := .boolean) (x := (0 : Int32)) (by decide)) hx hb hr hlocks hK hP hD hS (Nat.le_of_ble_eq_true rfl) (Nat.le_of_ble_eq_true rfl) dX8_refuses_16
abbrev RM_X8_ends : Room := { frames := 1, cells := 0, slots := 0, locals := 22 }
abbrev MC_X8_ends : Nat := 0
abbrev MS_X8_ends : Nat := 0
abbrev wf_X8_ends (K : Nat → ClassId) (aM : Nat) (aMn : Nat) (aMt : Nat) (aMk : Nat) (aMs : Nat) (aMl : Nat) (aMx : Nat) (aMd : Nat) (mB : Int32) (mI : Int32) (mH : Int32) (mQ : Int32) (mW : Int32) (mF : Int32) (mR : Int32) (mD : Int32) (mJ : Int32) (mA : Int32) (nT : Nat → Int32) (v : Int32 × Int32 × Int32 × (Nat → Int32)) : va_W := [(aM, .inr (6, [.ref aMn, .ref aMt, .ref aMk, .int v.2.1, .ref aMs, .int mB, .ref aMl, .int mI, .ref aMx, .int mH, .int mQ, .int mW, .ref aMd, .int mF, .int mR, .int mD, .int mJ, .int mA, .int v.2.2.1])), (aMt, .inl (K 7, 55, .inl nT)), (aMk, .inl (K 8, 440, .inl v.2.2.2))]
set_option maxHeartbeats 4000000 in
set_option maxRecDepth 100000 in
theorem c_X8_ends (l : Launch) (D : va_G) (K : Nat → ClassId) (aM : Nat) (aMn : Nat) (aMt : Nat) (aMk : Nat) (aMs : Nat) (aMl : Nat) (aMx : Nat) (aMd : Nat) (mU : Int32) (mB : Int32) (mI : Int32) (mH : Int32) (mQ : Int32) (mW : Int32) (mF : Int32) (mR : Int32) (mD : Int32) (mJ : Int32) (mA : Int32) (mT : Int32) (nT : Nat → Int32) (nK : Nat → Int32) (p1 : Int32) (v : Int32 × Int32 × Int32 × (Nat → Int32)) (hF : f_X8_ends mU mA mT nT nK p1 = some v) (sz : Nat) :
    (Met l yX8_ends wsX8_ends RM_X8_ends (PC D (TY K) [(aM, .inr (6, [.ref aMn, .ref aMt, .ref aMk, .int mU, .ref aMs, .int mB, .ref aMl, .int mI, .ref aMx, .int mH, .int mQ, .int mW, .ref aMd, .int mF, .int mR, .int mD, .int mJ, .int mA, .int mT])), (aMt, .inl (K 7, 55, .inl nT)), (aMk, .inl (K 8, 440, .inl nK))] [.ref aM, .int p1] sz) (QI D (TY K) (wf_X8_ends K aM aMn aMt aMk aMs aMl aMx aMd mB mI mH mQ mW mF mR mD mJ mA nT) v (va_A [(aM, .inr (6, [.ref aMn, .ref aMt, .ref aMk, .int mU, .ref aMs, .int mB, .ref aMl, .int mI, .ref aMx, .int mH, .int mQ, .int mW, .ref aMd, .int mF, .int mR, .int mD, .int mJ, .int mA, .int mT])), (aMt, .inl (K 7, 55, .inl nT)), (aMk, .inl (K 8, 440, .inl nK))] sz)) MC_X8_ends MS_X8_ends (va_A [(aM, .inr (6, [.ref aMn, .ref aMt, .ref aMk, .int mU, .ref aMs, .int mB, .ref aMl, .int mI, .ref aMx, .int mH, .int mQ, .int mW, .ref aMd, .int mF, .int mR, .int mD, .int mJ, .int mA, .int mT])), (aMt, .inl (K 7, 55, .inl nT)), (aMk, .inl (K 8, 440, .inl nK))] sz)) := by
  refine pro (Qf := fun A => QI D (TY K) (wf_X8_ends K aM aMn aMt aMk aMs aMl aMx aMd mB mI mH mQ mW mF mR mD mJ mA nT) v A) (cc := cX8_ends) (maxL := 2) (ret := (some .int)) (by decide +kernel) rfl (Nat.le_of_ble_eq_true rfl) ?_
  intro p e s m args below meth c hx hb hr hts hown hlocks hml hini hK A hA hE hP hD hS ls hl
  have hown : s.vm.findClass RX8 = some m.cls := hown
  have hl : lv_has ls 2 [(0, .ref aM), (1, .int p1)] := hl
  rw [f_X8_ends] at hF
  refine lv_iload_n hx hb dX8_ends_0 rfl (lv_at hl 1 rfl) ?_
  refine lv_if_eq (tgt := 15) hx hb dX8_ends_1 (by decide) (fun c1 => ?_) (fun c1 => ?_)
  · have hF := oT c1 hF
    refine lv_aload_n hx hb dX8_ends_15 rfl (lv_at hl 0 rfl) ?_
    refine lv_iconst (v := (1 : Int32)) hx hb dX8_ends_16 (by decide) ?_
    obtain ⟨v2, hv2, hF⟩ := oB hF
    refine call_i (wr := [(aMt, .inl (K 7, 55, .inl nT)), (aMk, .inl (K 8, 440, .inl nK))]) (wn := [(aM, .inr (6, [.ref aMn, .ref aMt, .ref aMk, .int mU, .ref aMs, .int mB, .ref aMl, .int mI, .ref aMx, .int mH, .int mQ, .int mW, .ref aMd, .int mF, .int mR, .int mD, .int mJ, .int mA, .int v2.2])), (aMt, .inl (K 7, 55, .inl nT)), (aMk, .inl (K 8, 440, .inl nK))]) (va_runV (As := [.int (1 : Int32)]) (rest := []) ⟨hx, hb, hml, hown, hts⟩ (c_X8_raises l D K aM aMn aMt aMk aMs aMl aMx aMd mU mB mI mH mQ mW mF mR mD mJ mA mT (1 : Int32) v2 hv2 s.heap.size) (cwV 1 hts gX8_ends_X8_raises rfl rfl rfl (by decide +kernel) ⟨(Nat.le_of_ble_eq_true rfl), (Nat.le_of_ble_eq_true rfl)⟩) (prV hE hK hP hD hS hA [0] rfl rfl 6 0 rfl rfl rfl) rfl rfl hl.1 rfl (lv_room (Nat.le_of_ble_eq_true rfl)) dX8_ends_17 ⟨(Nat.le_of_ble_eq_true rfl), (Nat.le_of_ble_eq_true rfl)⟩) hP hD hS hA [0] [1, 2] [2, 0, 1] rfl rfl rfl (by decide) rfl rfl (fun H locs hP hD hS => ?_)
    exact fin_i (u := (v2.1, (mU, v2.2, nK))) hF hx hb hr hlocks hK hP hD hS (Nat.le_of_ble_eq_true rfl) (Nat.le_of_ble_eq_true rfl) dX8_ends_20
  · have hF := oF c1 hF
    refine lv_aload_n hx hb dX8_ends_4 rfl (lv_at hl 0 rfl) ?_
    refine lv_aload_n hx hb dX8_ends_5 rfl (lv_at hl 0 rfl) ?_
    refine va_get (D := D) (ci := 6) (v := .int mA) (C := RX8) (T := TX8) (N := 19) hx hb hts (fun _ h => List.mem_cons_of_mem _ (List.mem_append_left _ (List.mem_append_right _ h))) hown hK hP 0 rfl rfl 17 (by decide) (hts (.fieldLink RX8 42 "BarometerClubModel" "answer" "I") (List.mem_of_getElem? (i := 1) rfl)) (fun _ h9 => h9) rfl dX8_ends_6 ?_
    obtain ⟨v3, hv3, hF⟩ := oB hF
    refine call_i (wr := []) (wn := [(aM, .inr (6, [.ref aMn, .ref aMt, .ref aMk, .int v3.2.1, .ref aMs, .int mB, .ref aMl, .int mI, .ref aMx, .int mH, .int mQ, .int mW, .ref aMd, .int mF, .int mR, .int mD, .int mJ, .int mA, .int mT])), (aMt, .inl (K 7, 55, .inl nT)), (aMk, .inl (K 8, 440, .inl v3.2.2))]) (va_runV (As := [.int mA]) (rest := []) ⟨hx, hb, hml, hown, hts⟩ (c_X8_keeps l D K aM aMn aMt aMk aMs aMl aMx aMd mU mB mI mH mQ mW mF mR mD mJ mA mT nT nK mA v3 hv3 s.heap.size) (cwV 1 hts gX8_ends_X8_keeps rfl rfl rfl (by decide +kernel) ⟨(Nat.le_of_ble_eq_true rfl), (Nat.le_of_ble_eq_true rfl)⟩) (prV hE hK hP hD hS hA [0, 1, 2] rfl rfl 6 0 rfl rfl rfl) rfl rfl hl.1 rfl (lv_room (Nat.le_of_ble_eq_true rfl)) dX8_ends_9 ⟨(Nat.le_of_ble_eq_true rfl), (Nat.le_of_ble_eq_true rfl)⟩) hP hD hS hA [0, 1, 2] [] [0, 1, 2] rfl rfl rfl (by decide) rfl rfl (fun H locs hP hD hS => ?_)
    refine lv_goto (tgt := 20) hx hb dX8_ends_12 (by decide) ?_
    exact fin_i (u := (v3.1, (v3.2.1, mT, v3.2.2))) hF hx hb hr hlocks hK hP hD hS (Nat.le_of_ble_eq_true rfl) (Nat.le_of_ble_eq_true rfl) dX8_ends_20
abbrev RM_X8_isMember : Room := { frames := 1, cells := 0, slots := 0, locals := 22 }
abbrev MC_X8_isMember : Nat := 0
abbrev MS_X8_isMember : Nat := 0
abbrev wf_X8_isMember (K : Nat → ClassId) (aM : Nat) (aMn : Nat) (aMt : Nat) (aMk : Nat) (aMs : Nat) (aMl : Nat) (aMx : Nat) (aMd : Nat) (mU : Int32) (mB : Int32) (mI : Int32) (mH : Int32) (mQ : Int32) (mW : Int32) (mF : Int32) (mR : Int32) (mD : Int32) (mJ : Int32) (mA : Int32) (mT : Int32) (nN : Nat → Int32) (v : Int32 × Unit) : va_W := [(aM, .inr (6, [.ref aMn, .ref aMt, .ref aMk, .int mU, .ref aMs, .int mB, .ref aMl, .int mI, .ref aMx, .int mH, .int mQ, .int mW, .ref aMd, .int mF, .int mR, .int mD, .int mJ, .int mA, .int mT])), (aMn, .inl (K 6, 55, .inl nN))]
set_option maxHeartbeats 4000000 in
set_option maxRecDepth 100000 in
theorem c_X8_isMember (l : Launch) (D : va_G) (K : Nat → ClassId) (aM : Nat) (aMn : Nat) (aMt : Nat) (aMk : Nat) (aMs : Nat) (aMl : Nat) (aMx : Nat) (aMd : Nat) (mU : Int32) (mB : Int32) (mI : Int32) (mH : Int32) (mQ : Int32) (mW : Int32) (mF : Int32) (mR : Int32) (mD : Int32) (mJ : Int32) (mA : Int32) (mT : Int32) (nN : Nat → Int32) (p1 : Int32) (v : Int32 × Unit) (hF : f_X8_isMember nN p1 = some v) (sz : Nat) :
    (Met l yX8_isMember wsX8_isMember RM_X8_isMember (PC D (TY K) [(aM, .inr (6, [.ref aMn, .ref aMt, .ref aMk, .int mU, .ref aMs, .int mB, .ref aMl, .int mI, .ref aMx, .int mH, .int mQ, .int mW, .ref aMd, .int mF, .int mR, .int mD, .int mJ, .int mA, .int mT])), (aMn, .inl (K 6, 55, .inl nN))] [.ref aM, .int p1] sz) (QI D (TY K) (wf_X8_isMember K aM aMn aMt aMk aMs aMl aMx aMd mU mB mI mH mQ mW mF mR mD mJ mA mT nN) v (va_A [(aM, .inr (6, [.ref aMn, .ref aMt, .ref aMk, .int mU, .ref aMs, .int mB, .ref aMl, .int mI, .ref aMx, .int mH, .int mQ, .int mW, .ref aMd, .int mF, .int mR, .int mD, .int mJ, .int mA, .int mT])), (aMn, .inl (K 6, 55, .inl nN))] sz)) MC_X8_isMember MS_X8_isMember (va_A [(aM, .inr (6, [.ref aMn, .ref aMt, .ref aMk, .int mU, .ref aMs, .int mB, .ref aMl, .int mI, .ref aMx, .int mH, .int mQ, .int mW, .ref aMd, .int mF, .int mR, .int mD, .int mJ, .int mA, .int mT])), (aMn, .inl (K 6, 55, .inl nN))] sz)) := by
  refine pro (Qf := fun A => QI D (TY K) (wf_X8_isMember K aM aMn aMt aMk aMs aMl aMx aMd mU mB mI mH mQ mW mF mR mD mJ mA mT nN) v A) (cc := cX8_isMember) (maxL := 2) (ret := (some .boolean)) (by decide +kernel) rfl (Nat.le_of_ble_eq_true rfl) ?_
  intro p e s m args below meth c hx hb hr hts hown hlocks hml hini hK A hA hE hP hD hS ls hl
  have hown : s.vm.findClass RX8 = some m.cls := hown
  have hl : lv_has ls 2 [(0, .ref aM), (1, .int p1)] := hl
  rw [f_X8_isMember] at hF
  refine lv_iload_n hx hb dX8_isMember_0 rfl (lv_at hl 1 rfl) ?_
  refine lv_iconst (v := (0 : Int32)) hx hb dX8_isMember_1 (by decide) ?_
  refine lv_aload_n hx hb dX8_isMember_2 rfl (lv_at hl 0 rfl) ?_
  refine va_get (D := D) (ci := 6) (v := .ref aMn) (C := RX8) (T := TX8) (N := 19) hx hb hts (fun _ h => List.mem_cons_of_mem _ (List.mem_append_left _ (List.mem_append_right _ h))) hown hK hP 0 rfl rfl 0 (by decide) (hts (.fieldLink RX8 9 "BarometerClubModel" "now" "[I") (List.mem_of_getElem? (i := 1) rfl)) (fun _ h9 => h9) rfl dX8_isMember_3 ?_
  refine lv_iconst (v := (0 : Int32)) hx hb dX8_isMember_6 (by decide) ?_
  refine va_iald hx hb hK hP 1 6 rfl rfl (inB_in (by decide : inB (0 : Int32) 55 = true)) dX8_isMember_7 ?_
  refine lv_iconst (v := (1 : Int32)) hx hb dX8_isMember_8 (by decide) ?_
  refine lv_isub hx hb dX8_isMember_9 ?_
  obtain ⟨v1, hv1, hF⟩ := oB hF
  refine call_i (wr := [(aM, .inr (6, [.ref aMn, .ref aMt, .ref aMk, .int mU, .ref aMs, .int mB, .ref aMl, .int mI, .ref aMx, .int mH, .int mQ, .int mW, .ref aMd, .int mF, .int mR, .int mD, .int mJ, .int mA, .int mT])), (aMn, .inl (K 6, 55, .inl nN))]) (wn := [(aM, .inr (6, [.ref aMn, .ref aMt, .ref aMk, .int mU, .ref aMs, .int mB, .ref aMl, .int mI, .ref aMx, .int mH, .int mQ, .int mW, .ref aMd, .int mF, .int mR, .int mD, .int mJ, .int mA, .int mT])), (aMn, .inl (K 6, 55, .inl nN))]) (va_runS (As := [.int p1, .int (0 : Int32), .int ((nN (0 : Int32).toNatClampNeg) - (1 : Int32))]) (rest := []) ⟨hx, hb, hml, hown, hts⟩ (c_X8_in l D K p1 (0 : Int32) ((nN (0 : Int32).toNatClampNeg) - (1 : Int32)) v1 hv1 s.heap.size) (va_cwS 3 hts gX8_isMember_X8_in rfl rfl rfl (by decide +kernel) ⟨(Nat.le_of_ble_eq_true rfl), (Nat.le_of_ble_eq_true rfl)⟩) (prS hE hK hP hD hS hA [] rfl rfl) rfl rfl hl.1 rfl (lv_room (Nat.le_of_ble_eq_true rfl)) dX8_isMember_10 ⟨(Nat.le_of_ble_eq_true rfl), (Nat.le_of_ble_eq_true rfl)⟩) hP hD hS hA [] [0, 1] [0, 1] rfl rfl rfl (by decide) rfl rfl (fun H locs hP hD hS => ?_)
  obtain ⟨g2, hF⟩ := oG hF
  exact fin_z (u := (v1.1, ())) hF (okN_n g2) hx hb hr hlocks hK hP hD hS (Nat.le_of_ble_eq_true rfl) (Nat.le_of_ble_eq_true rfl) dX8_isMember_13
abbrev RM_X8_isThere : Room := { frames := 2, cells := 0, slots := 0, locals := 43 }
abbrev MC_X8_isThere : Nat := 0
abbrev MS_X8_isThere : Nat := 0
abbrev wf_X8_isThere (K : Nat → ClassId) (aM : Nat) (aMn : Nat) (aMt : Nat) (aMk : Nat) (aMs : Nat) (aMl : Nat) (aMx : Nat) (aMd : Nat) (mU : Int32) (mB : Int32) (mI : Int32) (mH : Int32) (mQ : Int32) (mW : Int32) (mF : Int32) (mA : Int32) (mT : Int32) (nN : Nat → Int32) (v : Int32 × Int32 × Int32 × Int32) : va_W := [(aM, .inr (6, [.ref aMn, .ref aMt, .ref aMk, .int mU, .ref aMs, .int mB, .ref aMl, .int mI, .ref aMx, .int mH, .int mQ, .int mW, .ref aMd, .int mF, .int v.2.1, .int v.2.2.1, .int v.2.2.2, .int mA, .int mT])), (aMn, .inl (K 6, 55, .inl nN))]
set_option maxHeartbeats 4000000 in
set_option maxRecDepth 100000 in
theorem c_X8_isThere (l : Launch) (D : va_G) (K : Nat → ClassId) (aM : Nat) (aMn : Nat) (aMt : Nat) (aMk : Nat) (aMs : Nat) (aMl : Nat) (aMx : Nat) (aMd : Nat) (mU : Int32) (mB : Int32) (mI : Int32) (mH : Int32) (mQ : Int32) (mW : Int32) (mF : Int32) (mR : Int32) (mD : Int32) (mJ : Int32) (mA : Int32) (mT : Int32) (nN : Nat → Int32) (p1 : Int32) (v : Int32 × Int32 × Int32 × Int32) (hF : f_X8_isThere mR mD mJ nN p1 = some v) (sz : Nat) :
    (Met l yX8_isThere wsX8_isThere RM_X8_isThere (PC D (TY K) [(aM, .inr (6, [.ref aMn, .ref aMt, .ref aMk, .int mU, .ref aMs, .int mB, .ref aMl, .int mI, .ref aMx, .int mH, .int mQ, .int mW, .ref aMd, .int mF, .int mR, .int mD, .int mJ, .int mA, .int mT])), (aMn, .inl (K 6, 55, .inl nN))] [.ref aM, .int p1] sz) (QI D (TY K) (wf_X8_isThere K aM aMn aMt aMk aMs aMl aMx aMd mU mB mI mH mQ mW mF mA mT nN) v (va_A [(aM, .inr (6, [.ref aMn, .ref aMt, .ref aMk, .int mU, .ref aMs, .int mB, .ref aMl, .int mI, .ref aMx, .int mH, .int mQ, .int mW, .ref aMd, .int mF, .int mR, .int mD, .int mJ, .int mA, .int mT])), (aMn, .inl (K 6, 55, .inl nN))] sz)) MC_X8_isThere MS_X8_isThere (va_A [(aM, .inr (6, [.ref aMn, .ref aMt, .ref aMk, .int mU, .ref aMs, .int mB, .ref aMl, .int mI, .ref aMx, .int mH, .int mQ, .int mW, .ref aMd, .int mF, .int mR, .int mD, .int mJ, .int mA, .int mT])), (aMn, .inl (K 6, 55, .inl nN))] sz)) := by
  refine pro (Qf := fun A => QI D (TY K) (wf_X8_isThere K aM aMn aMt aMk aMs aMl aMx aMd mU mB mI mH mQ mW mF mA mT nN) v A) (cc := cX8_isThere) (maxL := 2) (ret := (some .boolean)) (by decide +kernel) rfl (Nat.le_of_ble_eq_true rfl) ?_
  intro p e s m args below meth c hx hb hr hts hown hlocks hml hini hK A hA hE hP hD hS ls hl
  have hown : s.vm.findClass RX8 = some m.cls := hown
  have hl : lv_has ls 2 [(0, .ref aM), (1, .int p1)] := hl
  rw [f_X8_isThere] at hF
  refine lv_aload_n hx hb dX8_isThere_0 rfl (lv_at hl 0 rfl) ?_
  refine lv_iload_n hx hb dX8_isThere_1 rfl (lv_at hl 1 rfl) ?_
  obtain ⟨v1, hv1, hF⟩ := oB hF
  refine call_i (wr := []) (wn := [(aM, .inr (6, [.ref aMn, .ref aMt, .ref aMk, .int mU, .ref aMs, .int mB, .ref aMl, .int mI, .ref aMx, .int mH, .int mQ, .int mW, .ref aMd, .int mF, .int mR, .int mD, .int mJ, .int mA, .int mT])), (aMn, .inl (K 6, 55, .inl nN))]) (va_runV (As := [.int p1]) (rest := []) ⟨hx, hb, hml, hown, hts⟩ (c_X8_isMember l D K aM aMn aMt aMk aMs aMl aMx aMd mU mB mI mH mQ mW mF mR mD mJ mA mT nN p1 v1 hv1 s.heap.size) (cwV 1 hts gX8_isThere_X8_isMember rfl rfl rfl (by decide +kernel) ⟨(Nat.le_of_ble_eq_true rfl), (Nat.le_of_ble_eq_true rfl)⟩) (prV hE hK hP hD hS hA [0, 1] rfl rfl 6 0 rfl rfl rfl) rfl rfl hl.1 rfl (lv_room (Nat.le_of_ble_eq_true rfl)) dX8_isThere_2 ⟨(Nat.le_of_ble_eq_true rfl), (Nat.le_of_ble_eq_true rfl)⟩) hP hD hS hA [0, 1] [] [0, 1] rfl rfl rfl (by decide) rfl rfl (fun H locs hP hD hS => ?_)
  refine lv_if_ne (tgt := 22) hx hb dX8_isThere_5 (by decide) (fun c2 => ?_) (fun c2 => ?_)
  · have hF := oF c2 hF
    refine lv_iconst (v := (1 : Int32)) hx hb dX8_isThere_22 (by decide) ?_
    refine lv_goto (tgt := 27) hx hb dX8_isThere_23 (by decide) ?_
    exact fin_z (u := ((1 : Int32), (mR, mD, mJ))) hF (okN_n (ty := .boolean) (x := (1 : Int32)) (by decide)) hx hb hr hlocks hK hP hD hS (Nat.le_of_ble_eq_true rfl) (Nat.le_of_ble_eq_true rfl) dX8_isThere_27
  · have hF := oT c2 hF
    refine lv_aload_n hx hb dX8_isThere_8 rfl (lv_at hl 0 rfl) ?_
    refine lv_iconst (v := (4 : Int32)) hx hb dX8_isThere_9 (by decide) ?_
    refine lv_aload_n hx hb dX8_isThere_10 rfl (lv_at hl 0 rfl) ?_
    refine va_get (D := D) (ci := 6) (v := .ref aMn) (C := RX8) (T := TX8) (N := 19) hx hb hts (fun _ h => List.mem_cons_of_mem _ (List.mem_append_left _ (List.mem_append_right _ h))) hown hK hP 0 rfl rfl 0 (by decide) (hts (.fieldLink RX8 9 "BarometerClubModel" "now" "[I") (List.mem_of_getElem? (i := 1) rfl)) (fun _ h9 => h9) rfl dX8_isThere_11 ?_
    refine lv_iconst (v := (0 : Int32)) hx hb dX8_isThere_14 (by decide) ?_
    refine va_iald hx hb hK hP 1 6 rfl rfl (inB_in (by decide : inB (0 : Int32) 55 = true)) dX8_isThere_15 ?_
    obtain ⟨v3, hv3, hF⟩ := oB hF
    refine call_i (wr := [(aMn, .inl (K 6, 55, .inl nN))]) (wn := [(aM, .inr (6, [.ref aMn, .ref aMt, .ref aMk, .int mU, .ref aMs, .int mB, .ref aMl, .int mI, .ref aMx, .int mH, .int mQ, .int mW, .ref aMd, .int mF, .int v3.2.1, .int v3.2.2.1, .int v3.2.2.2, .int mA, .int mT])), (aMn, .inl (K 6, 55, .inl nN))]) (va_runV (As := [.int (4 : Int32), .int (nN (0 : Int32).toNatClampNeg)]) (rest := []) ⟨hx, hb, hml, hown, hts⟩ (c_X8_refuses l D K aM aMn aMt aMk aMs aMl aMx aMd mU mB mI mH mQ mW mF mR mD mJ mA mT (4 : Int32) (nN (0 : Int32).toNatClampNeg) v3 hv3 H.size) (cwV 2 hts gX8_isThere_X8_refuses rfl rfl rfl (by decide +kernel) ⟨(Nat.le_of_ble_eq_true rfl), (Nat.le_of_ble_eq_true rfl)⟩) (prV hE hK hP hD hS hA [0] rfl rfl 6 0 rfl rfl rfl) rfl rfl hl.1 rfl (lv_room (Nat.le_of_ble_eq_true rfl)) dX8_isThere_16 ⟨(Nat.le_of_ble_eq_true rfl), (Nat.le_of_ble_eq_true rfl)⟩) hP hD hS hA [0] [1] [1, 0] rfl rfl rfl (by decide) rfl rfl (fun H locs hP hD hS => ?_)
    refine lv_if_eq (tgt := 26) hx hb dX8_isThere_19 (by decide) (fun c4 => ?_) (fun c4 => ?_)
    · have hF := oT c4 hF
      refine lv_iconst (v := (0 : Int32)) hx hb dX8_isThere_26 (by decide) ?_
      exact fin_z (u := ((0 : Int32), (v3.2.1, v3.2.2.1, v3.2.2.2))) hF (okN_n (ty := .boolean) (x := (0 : Int32)) (by decide)) hx hb hr hlocks hK hP hD hS (Nat.le_of_ble_eq_true rfl) (Nat.le_of_ble_eq_true rfl) dX8_isThere_27
    · have hF := oF c4 hF
      refine lv_iconst (v := (1 : Int32)) hx hb dX8_isThere_22 (by decide) ?_
      refine lv_goto (tgt := 27) hx hb dX8_isThere_23 (by decide) ?_
      exact fin_z (u := ((1 : Int32), (v3.2.1, v3.2.2.1, v3.2.2.2))) hF (okN_n (ty := .boolean) (x := (1 : Int32)) (by decide)) hx hb hr hlocks hK hP hD hS (Nat.le_of_ble_eq_true rfl) (Nat.le_of_ble_eq_true rfl) dX8_isThere_27
abbrev RM_X8_of : Room := { frames := 0, cells := 0, slots := 0, locals := 0 }
abbrev MC_X8_of : Nat := 0
abbrev MS_X8_of : Nat := 0
abbrev wf_X8_of (K : Nat → ClassId) (aM : Nat) (aMn : Nat) (aMt : Nat) (aMk : Nat) (aMs : Nat) (aMl : Nat) (aMx : Nat) (aMd : Nat) (mU : Int32) (mB : Int32) (mI : Int32) (mH : Int32) (mQ : Int32) (mW : Int32) (mF : Int32) (mR : Int32) (mD : Int32) (mJ : Int32) (mA : Int32) (mT : Int32) (nN : Nat → Int32) (v : Int32 × Unit) : va_W := [(aM, .inr (6, [.ref aMn, .ref aMt, .ref aMk, .int mU, .ref aMs, .int mB, .ref aMl, .int mI, .ref aMx, .int mH, .int mQ, .int mW, .ref aMd, .int mF, .int mR, .int mD, .int mJ, .int mA, .int mT])), (aMn, .inl (K 6, 55, .inl nN))]
set_option maxHeartbeats 4000000 in
set_option maxRecDepth 100000 in
theorem c_X8_of (l : Launch) (D : va_G) (K : Nat → ClassId) (aM : Nat) (aMn : Nat) (aMt : Nat) (aMk : Nat) (aMs : Nat) (aMl : Nat) (aMx : Nat) (aMd : Nat) (mU : Int32) (mB : Int32) (mI : Int32) (mH : Int32) (mQ : Int32) (mW : Int32) (mF : Int32) (mR : Int32) (mD : Int32) (mJ : Int32) (mA : Int32) (mT : Int32) (nN : Nat → Int32) (p1 : Int32) (p2 : Int32) (v : Int32 × Unit) (hF : f_X8_of nN p1 p2 = some v) (sz : Nat) :
    (Met l yX8_of wsX8_of RM_X8_of (PC D (TY K) [(aM, .inr (6, [.ref aMn, .ref aMt, .ref aMk, .int mU, .ref aMs, .int mB, .ref aMl, .int mI, .ref aMx, .int mH, .int mQ, .int mW, .ref aMd, .int mF, .int mR, .int mD, .int mJ, .int mA, .int mT])), (aMn, .inl (K 6, 55, .inl nN))] [.ref aM, .int p1, .int p2] sz) (QI D (TY K) (wf_X8_of K aM aMn aMt aMk aMs aMl aMx aMd mU mB mI mH mQ mW mF mR mD mJ mA mT nN) v (va_A [(aM, .inr (6, [.ref aMn, .ref aMt, .ref aMk, .int mU, .ref aMs, .int mB, .ref aMl, .int mI, .ref aMx, .int mH, .int mQ, .int mW, .ref aMd, .int mF, .int mR, .int mD, .int mJ, .int mA, .int mT])), (aMn, .inl (K 6, 55, .inl nN))] sz)) MC_X8_of MS_X8_of (va_A [(aM, .inr (6, [.ref aMn, .ref aMt, .ref aMk, .int mU, .ref aMs, .int mB, .ref aMl, .int mI, .ref aMx, .int mH, .int mQ, .int mW, .ref aMd, .int mF, .int mR, .int mD, .int mJ, .int mA, .int mT])), (aMn, .inl (K 6, 55, .inl nN))] sz)) := by
  refine pro (Qf := fun A => QI D (TY K) (wf_X8_of K aM aMn aMt aMk aMs aMl aMx aMd mU mB mI mH mQ mW mF mR mD mJ mA mT nN) v A) (cc := cX8_of) (maxL := 3) (ret := (some .int)) (by decide +kernel) rfl (Nat.le_of_ble_eq_true rfl) ?_
  intro p e s m args below meth c hx hb hr hts hown hlocks hml hini hK A hA hE hP hD hS ls hl
  have hown : s.vm.findClass RX8 = some m.cls := hown
  have hl : lv_has ls 3 [(0, .ref aM), (1, .int p1), (2, .int p2)] := hl
  rw [f_X8_of] at hF
  refine lv_aload_n hx hb dX8_of_0 rfl (lv_at hl 0 rfl) ?_
  refine va_get (D := D) (ci := 6) (v := .ref aMn) (C := RX8) (T := TX8) (N := 19) hx hb hts (fun _ h => List.mem_cons_of_mem _ (List.mem_append_left _ (List.mem_append_right _ h))) hown hK hP 0 rfl rfl 0 (by decide) (hts (.fieldLink RX8 9 "BarometerClubModel" "now" "[I") (List.mem_of_getElem? (i := 1) rfl)) (fun _ h9 => h9) rfl dX8_of_1 ?_
  refine lv_bipush (v := (13 : Int32)) hx hb dX8_of_4 (by decide) ?_
  refine lv_bipush (v := (7 : Int32)) hx hb dX8_of_6 (by decide) ?_
  refine lv_iload_n hx hb dX8_of_8 rfl (lv_at hl 1 rfl) ?_
  refine lv_imul hx hb dX8_of_9 ?_
  refine lv_iadd hx hb dX8_of_10 ?_
  refine lv_iload_n hx hb dX8_of_11 rfl (lv_at hl 2 rfl) ?_
  refine lv_iadd hx hb dX8_of_12 ?_
  obtain ⟨g1, hF⟩ := oG hF
  refine va_iald hx hb hK hP 1 6 rfl rfl (inB_in g1) dX8_of_13 ?_
  exact fin_i (u := (nN (((13 : Int32) + ((7 : Int32) * p1)) + p2).toNatClampNeg, ())) hF hx hb hr hlocks hK hP hD hS (Nat.le_of_ble_eq_true rfl) (Nat.le_of_ble_eq_true rfl) dX8_of_14
abbrev RM_X8_sets : Room := { frames := 0, cells := 0, slots := 0, locals := 0 }
abbrev MC_X8_sets : Nat := 0
abbrev MS_X8_sets : Nat := 0
abbrev wf_X8_sets (K : Nat → ClassId) (aM : Nat) (aMn : Nat) (aMt : Nat) (aMk : Nat) (aMs : Nat) (aMl : Nat) (aMx : Nat) (aMd : Nat) (mU : Int32) (mB : Int32) (mI : Int32) (mH : Int32) (mQ : Int32) (mW : Int32) (mF : Int32) (mR : Int32) (mD : Int32) (mJ : Int32) (mA : Int32) (mT : Int32) (v : (Nat → Int32)) : va_W := [(aM, .inr (6, [.ref aMn, .ref aMt, .ref aMk, .int mU, .ref aMs, .int mB, .ref aMl, .int mI, .ref aMx, .int mH, .int mQ, .int mW, .ref aMd, .int mF, .int mR, .int mD, .int mJ, .int mA, .int mT])), (aMn, .inl (K 6, 55, .inl v))]
set_option maxHeartbeats 4000000 in
set_option maxRecDepth 100000 in
theorem c_X8_sets (l : Launch) (D : va_G) (K : Nat → ClassId) (aM : Nat) (aMn : Nat) (aMt : Nat) (aMk : Nat) (aMs : Nat) (aMl : Nat) (aMx : Nat) (aMd : Nat) (mU : Int32) (mB : Int32) (mI : Int32) (mH : Int32) (mQ : Int32) (mW : Int32) (mF : Int32) (mR : Int32) (mD : Int32) (mJ : Int32) (mA : Int32) (mT : Int32) (nN : Nat → Int32) (p1 : Int32) (p2 : Int32) (p3 : Int32) (v : (Nat → Int32)) (hF : f_X8_sets nN p1 p2 p3 = some v) (sz : Nat) :
    (Met l yX8_sets wsX8_sets RM_X8_sets (PC D (TY K) [(aM, .inr (6, [.ref aMn, .ref aMt, .ref aMk, .int mU, .ref aMs, .int mB, .ref aMl, .int mI, .ref aMx, .int mH, .int mQ, .int mW, .ref aMd, .int mF, .int mR, .int mD, .int mJ, .int mA, .int mT])), (aMn, .inl (K 6, 55, .inl nN))] [.ref aM, .int p1, .int p2, .int p3] sz) (QV D (TY K) (wf_X8_sets K aM aMn aMt aMk aMs aMl aMx aMd mU mB mI mH mQ mW mF mR mD mJ mA mT) v (va_A [(aM, .inr (6, [.ref aMn, .ref aMt, .ref aMk, .int mU, .ref aMs, .int mB, .ref aMl, .int mI, .ref aMx, .int mH, .int mQ, .int mW, .ref aMd, .int mF, .int mR, .int mD, .int mJ, .int mA, .int mT])), (aMn, .inl (K 6, 55, .inl nN))] sz)) MC_X8_sets MS_X8_sets (va_A [(aM, .inr (6, [.ref aMn, .ref aMt, .ref aMk, .int mU, .ref aMs, .int mB, .ref aMl, .int mI, .ref aMx, .int mH, .int mQ, .int mW, .ref aMd, .int mF, .int mR, .int mD, .int mJ, .int mA, .int mT])), (aMn, .inl (K 6, 55, .inl nN))] sz)) := by
  refine pro (Qf := fun A => QV D (TY K) (wf_X8_sets K aM aMn aMt aMk aMs aMl aMx aMd mU mB mI mH mQ mW mF mR mD mJ mA mT) v A) (cc := cX8_sets) (maxL := 4) (ret := none) (by decide +kernel) rfl (Nat.le_of_ble_eq_true rfl) ?_
  intro p e s m args below meth c hx hb hr hts hown hlocks hml hini hK A hA hE hP hD hS ls hl
  have hown : s.vm.findClass RX8 = some m.cls := hown
  have hl : lv_has ls 4 [(0, .ref aM), (1, .int p1), (2, .int p2), (3, .int p3)] := hl
  rw [f_X8_sets] at hF
  refine lv_aload_n hx hb dX8_sets_0 rfl (lv_at hl 0 rfl) ?_
  refine va_get (D := D) (ci := 6) (v := .ref aMn) (C := RX8) (T := TX8) (N := 19) hx hb hts (fun _ h => List.mem_cons_of_mem _ (List.mem_append_left _ (List.mem_append_right _ h))) hown hK hP 0 rfl rfl 0 (by decide) (hts (.fieldLink RX8 9 "BarometerClubModel" "now" "[I") (List.mem_of_getElem? (i := 1) rfl)) (fun _ h9 => h9) rfl dX8_sets_1 ?_
  refine lv_bipush (v := (13 : Int32)) hx hb dX8_sets_4 (by decide) ?_
  refine lv_bipush (v := (7 : Int32)) hx hb dX8_sets_6 (by decide) ?_
  refine lv_iload_n hx hb dX8_sets_8 rfl (lv_at hl 1 rfl) ?_
  refine lv_imul hx hb dX8_sets_9 ?_
  refine lv_iadd hx hb dX8_sets_10 ?_
  refine lv_iload_n hx hb dX8_sets_11 rfl (lv_at hl 2 rfl) ?_
  refine lv_iadd hx hb dX8_sets_12 ?_
  refine lv_iload_n hx hb dX8_sets_13 rfl (lv_at hl 3 rfl) ?_
  obtain ⟨g1, hF⟩ := oG hF
  refine va_iast hx hb hK hP hD hS 1 6 rfl rfl (inB_in g1) dX8_sets_14 (fun H locs hP hD hS => ?_)
  have hP : va_P D vwC7 [(aM, .inr (6, [.ref aMn, .ref aMt, .ref aMk, .int mU, .ref aMs, .int mB, .ref aMl, .int mI, .ref aMx, .int mH, .int mQ, .int mW, .ref aMd, .int mF, .int mR, .int mD, .int mJ, .int mA, .int mT])), (aMn, .inl (K 6, 55, .inl (upd nN (((13 : Int32) + ((7 : Int32) * p1)) + p2).toNatClampNeg p3)))] H := hP
  have hD : va_D A [(aM, .inr (6, [.ref aMn, .ref aMt, .ref aMk, .int mU, .ref aMs, .int mB, .ref aMl, .int mI, .ref aMx, .int mH, .int mQ, .int mW, .ref aMd, .int mF, .int mR, .int mD, .int mJ, .int mA, .int mT])), (aMn, .inl (K 6, 55, .inl (upd nN (((13 : Int32) + ((7 : Int32) * p1)) + p2).toNatClampNeg p3)))] := hD
  exact fin_v (u := upd nN (((13 : Int32) + ((7 : Int32) * p1)) + p2).toNatClampNeg p3) hF hx hb hr hlocks hK hP hD hS (Nat.le_of_ble_eq_true rfl) (Nat.le_of_ble_eq_true rfl) dX8_sets_15
abbrev RM_X8_ownerOf : Room := { frames := 1, cells := 0, slots := 0, locals := 22 }
abbrev MC_X8_ownerOf : Nat := 0
abbrev MS_X8_ownerOf : Nat := 0
abbrev wf_X8_ownerOf (K : Nat → ClassId) (aM : Nat) (aMn : Nat) (aMt : Nat) (aMk : Nat) (aMs : Nat) (aMl : Nat) (aMx : Nat) (aMd : Nat) (mU : Int32) (mB : Int32) (mI : Int32) (mH : Int32) (mQ : Int32) (mW : Int32) (mF : Int32) (mR : Int32) (mD : Int32) (mJ : Int32) (mA : Int32) (mT : Int32) (nN : Nat → Int32) (v : Int32 × Unit) : va_W := [(aM, .inr (6, [.ref aMn, .ref aMt, .ref aMk, .int mU, .ref aMs, .int mB, .ref aMl, .int mI, .ref aMx, .int mH, .int mQ, .int mW, .ref aMd, .int mF, .int mR, .int mD, .int mJ, .int mA, .int mT])), (aMn, .inl (K 6, 55, .inl nN))]
set_option maxHeartbeats 4000000 in
set_option maxRecDepth 100000 in
theorem c_X8_ownerOf (l : Launch) (D : va_G) (K : Nat → ClassId) (aM : Nat) (aMn : Nat) (aMt : Nat) (aMk : Nat) (aMs : Nat) (aMl : Nat) (aMx : Nat) (aMd : Nat) (mU : Int32) (mB : Int32) (mI : Int32) (mH : Int32) (mQ : Int32) (mW : Int32) (mF : Int32) (mR : Int32) (mD : Int32) (mJ : Int32) (mA : Int32) (mT : Int32) (nN : Nat → Int32) (p1 : Int32) (v : Int32 × Unit) (hF : f_X8_ownerOf nN p1 = some v) (sz : Nat) :
    (Met l yX8_ownerOf wsX8_ownerOf RM_X8_ownerOf (PC D (TY K) [(aM, .inr (6, [.ref aMn, .ref aMt, .ref aMk, .int mU, .ref aMs, .int mB, .ref aMl, .int mI, .ref aMx, .int mH, .int mQ, .int mW, .ref aMd, .int mF, .int mR, .int mD, .int mJ, .int mA, .int mT])), (aMn, .inl (K 6, 55, .inl nN))] [.ref aM, .int p1] sz) (QI D (TY K) (wf_X8_ownerOf K aM aMn aMt aMk aMs aMl aMx aMd mU mB mI mH mQ mW mF mR mD mJ mA mT nN) v (va_A [(aM, .inr (6, [.ref aMn, .ref aMt, .ref aMk, .int mU, .ref aMs, .int mB, .ref aMl, .int mI, .ref aMx, .int mH, .int mQ, .int mW, .ref aMd, .int mF, .int mR, .int mD, .int mJ, .int mA, .int mT])), (aMn, .inl (K 6, 55, .inl nN))] sz)) MC_X8_ownerOf MS_X8_ownerOf (va_A [(aM, .inr (6, [.ref aMn, .ref aMt, .ref aMk, .int mU, .ref aMs, .int mB, .ref aMl, .int mI, .ref aMx, .int mH, .int mQ, .int mW, .ref aMd, .int mF, .int mR, .int mD, .int mJ, .int mA, .int mT])), (aMn, .inl (K 6, 55, .inl nN))] sz)) := by
  refine pro (Qf := fun A => QI D (TY K) (wf_X8_ownerOf K aM aMn aMt aMk aMs aMl aMx aMd mU mB mI mH mQ mW mF mR mD mJ mA mT nN) v A) (cc := cX8_ownerOf) (maxL := 3) (ret := (some .int)) (by decide +kernel) rfl (Nat.le_of_ble_eq_true rfl) ?_
  intro p e s m args below meth c hx hb hr hts hown hlocks hml hini hK A hA hE hP hD hS ls hl
  have hown : s.vm.findClass RX8 = some m.cls := hown
  have hl : lv_has ls 3 [(0, .ref aM), (1, .int p1)] := hl
  have loop_2 : ∀ (y2_1 : Int32) (n : Nat) (y2_2 : Int32), f_X8_ownerOf_L2 nN y2_1 n y2_2 = some v → ∀ (H : Heap) (locs : List Loc), va_P D vwC7 [(aM, .inr (6, [.ref aMn, .ref aMt, .ref aMk, .int mU, .ref aMs, .int mB, .ref aMl, .int mI, .ref aMx, .int mH, .int mQ, .int mW, .ref aMd, .int mF, .int mR, .int mD, .int mJ, .int mA, .int mT])), (aMn, .inl (K 6, 55, .inl nN))] H → va_D A [(aM, .inr (6, [.ref aMn, .ref aMt, .ref aMk, .int mU, .ref aMs, .int mB, .ref aMl, .int mI, .ref aMx, .int mH, .int mQ, .int mW, .ref aMd, .int mF, .int mR, .int mD, .int mJ, .int mA, .int mT])), (aMn, .inl (K 6, 55, .inl nN))] → va_S A s.heap H locs → ∀ ls : Array Slot, lv_has ls 3 [(0, .ref aM), (1, .int y2_1), (2, .int y2_2)] → W p l e RM_X8_ownerOf s m args below meth c H locs 0 0 (MQ below (QI D (TY K) (wf_X8_ownerOf K aM aMn aMt aMk aMs aMl aMx aMd mU mB mI mH mQ mW mF mR mD mJ mA mT nN) v A) args s MC_X8_ownerOf MS_X8_ownerOf A) (F0 m 2 ls []) := by
    intro y2_1 n
    induction n with
    | zero =>
      intro y2_2 hF
      exact nomatch hF
    | succ n ih =>
      intro y2_2 hF H locs hP hD hS ls hl
      rw [f_X8_ownerOf_L2.eq_2] at hF
      refine lv_iload_n hx hb dX8_ownerOf_2 rfl (lv_at hl 2 rfl) ?_
      refine lv_aload_n hx hb dX8_ownerOf_3 rfl (lv_at hl 0 rfl) ?_
      refine va_get (D := D) (ci := 6) (v := .ref aMn) (C := RX8) (T := TX8) (N := 19) hx hb hts (fun _ h => List.mem_cons_of_mem _ (List.mem_append_left _ (List.mem_append_right _ h))) hown hK hP 0 rfl rfl 0 (by decide) (hts (.fieldLink RX8 9 "BarometerClubModel" "now" "[I") (List.mem_of_getElem? (i := 1) rfl)) (fun _ h9 => h9) rfl dX8_ownerOf_4 ?_
      refine lv_iconst (v := (0 : Int32)) hx hb dX8_ownerOf_7 (by decide) ?_
      refine va_iald hx hb hK hP 1 6 rfl rfl (inB_in (by decide : inB (0 : Int32) 55 = true)) dX8_ownerOf_8 ?_
      refine lv_icmp_ge (tgt := 30) hx hb dX8_ownerOf_9 (by decide) (fun c1 => ?_) (fun c1 => ?_)
      · have hF := oT c1 hF
        refine lv_iconst (v := (-1 : Int32)) hx hb dX8_ownerOf_30 (by decide) ?_
        exact fin_i (u := ((-1 : Int32), ())) hF hx hb hr hlocks hK hP hD hS (Nat.le_of_ble_eq_true rfl) (Nat.le_of_ble_eq_true rfl) dX8_ownerOf_31
      · have hF := oF c1 hF
        refine lv_aload_n hx hb dX8_ownerOf_12 rfl (lv_at hl 0 rfl) ?_
        refine lv_iload_n hx hb dX8_ownerOf_13 rfl (lv_at hl 2 rfl) ?_
        refine lv_iconst (v := (1 : Int32)) hx hb dX8_ownerOf_14 (by decide) ?_
        obtain ⟨v2, hv2, hF⟩ := oB hF
        refine call_i (wr := []) (wn := [(aM, .inr (6, [.ref aMn, .ref aMt, .ref aMk, .int mU, .ref aMs, .int mB, .ref aMl, .int mI, .ref aMx, .int mH, .int mQ, .int mW, .ref aMd, .int mF, .int mR, .int mD, .int mJ, .int mA, .int mT])), (aMn, .inl (K 6, 55, .inl nN))]) (va_runV (As := [.int y2_2, .int (1 : Int32)]) (rest := []) ⟨hx, hb, hml, hown, hts⟩ (c_X8_of l D K aM aMn aMt aMk aMs aMl aMx aMd mU mB mI mH mQ mW mF mR mD mJ mA mT nN y2_2 (1 : Int32) v2 hv2 H.size) (cwV 2 hts gX8_ownerOf_X8_of rfl rfl rfl (by decide +kernel) ⟨(Nat.le_of_ble_eq_true rfl), (Nat.le_of_ble_eq_true rfl)⟩) (prV hE hK hP hD hS hA [0, 1] rfl rfl 6 0 rfl rfl rfl) rfl rfl hl.1 rfl (lv_room (Nat.le_of_ble_eq_true rfl)) dX8_ownerOf_15 ⟨(Nat.le_of_ble_eq_true rfl), (Nat.le_of_ble_eq_true rfl)⟩) hP hD hS hA [0, 1] [] [0, 1] rfl rfl rfl (by decide) rfl rfl (fun H locs hP hD hS => ?_)
        refine lv_iload_n hx hb dX8_ownerOf_18 rfl (lv_at hl 1 rfl) ?_
        refine lv_icmp_ne (tgt := 24) hx hb dX8_ownerOf_19 (by decide) (fun c3 => ?_) (fun c3 => ?_)
        · have hF := oF c3 hF
          refine lv_iinc (v := y2_2 + (1 : Int32)) (lv' := [(2, .int (y2_2 + (1 : Int32))), (0, .ref aM), (1, .int y2_1)]) hx hb dX8_ownerOf_24 hl (k := 2) rfl (by first | rfl | decide) (by decide) rfl (fun ls hl => ?_)
          refine lv_goto (tgt := 2) hx hb dX8_ownerOf_27 (by decide) ?_
          exact ih (y2_2 + (1 : Int32)) hF _ _ hP hD hS _ (lv_sub hl [1, 2, 0] rfl)
        · have hF := oT c3 hF
          refine lv_iload_n hx hb dX8_ownerOf_22 rfl (lv_at hl 2 rfl) ?_
          exact fin_i (u := (y2_2, ())) hF hx hb hr hlocks hK hP hD hS (Nat.le_of_ble_eq_true rfl) (Nat.le_of_ble_eq_true rfl) dX8_ownerOf_23
  rw [f_X8_ownerOf] at hF
  refine lv_iconst (v := (0 : Int32)) hx hb dX8_ownerOf_0 (by decide) ?_
  refine lv_istore_n (lv' := [(2, .int (0 : Int32)), (0, .ref aM), (1, .int p1)]) hx hb dX8_ownerOf_1 rfl hl (by decide) rfl (fun ls hl => ?_)
  exact loop_2 p1 FU (0 : Int32) hF _ _ hP hD hS _ (lv_sub hl [1, 2, 0] rfl)
abbrev RM_X8_hasWagered : Room := { frames := 1, cells := 0, slots := 0, locals := 22 }
abbrev MC_X8_hasWagered : Nat := 0
abbrev MS_X8_hasWagered : Nat := 0
abbrev wf_X8_hasWagered (K : Nat → ClassId) (aM : Nat) (aMn : Nat) (aMt : Nat) (aMk : Nat) (aMs : Nat) (aMl : Nat) (aMx : Nat) (aMd : Nat) (mU : Int32) (mB : Int32) (mI : Int32) (mH : Int32) (mQ : Int32) (mW : Int32) (mF : Int32) (mR : Int32) (mD : Int32) (mJ : Int32) (mA : Int32) (mT : Int32) (nN : Nat → Int32) (v : Int32 × Unit) : va_W := [(aM, .inr (6, [.ref aMn, .ref aMt, .ref aMk, .int mU, .ref aMs, .int mB, .ref aMl, .int mI, .ref aMx, .int mH, .int mQ, .int mW, .ref aMd, .int mF, .int mR, .int mD, .int mJ, .int mA, .int mT])), (aMn, .inl (K 6, 55, .inl nN))]
set_option maxHeartbeats 4000000 in
set_option maxRecDepth 100000 in
theorem c_X8_hasWagered (l : Launch) (D : va_G) (K : Nat → ClassId) (aM : Nat) (aMn : Nat) (aMt : Nat) (aMk : Nat) (aMs : Nat) (aMl : Nat) (aMx : Nat) (aMd : Nat) (mU : Int32) (mB : Int32) (mI : Int32) (mH : Int32) (mQ : Int32) (mW : Int32) (mF : Int32) (mR : Int32) (mD : Int32) (mJ : Int32) (mA : Int32) (mT : Int32) (nN : Nat → Int32) (p1 : Int32) (v : Int32 × Unit) (hF : f_X8_hasWagered nN p1 = some v) (sz : Nat) :
    (Met l yX8_hasWagered wsX8_hasWagered RM_X8_hasWagered (PC D (TY K) [(aM, .inr (6, [.ref aMn, .ref aMt, .ref aMk, .int mU, .ref aMs, .int mB, .ref aMl, .int mI, .ref aMx, .int mH, .int mQ, .int mW, .ref aMd, .int mF, .int mR, .int mD, .int mJ, .int mA, .int mT])), (aMn, .inl (K 6, 55, .inl nN))] [.ref aM, .int p1] sz) (QI D (TY K) (wf_X8_hasWagered K aM aMn aMt aMk aMs aMl aMx aMd mU mB mI mH mQ mW mF mR mD mJ mA mT nN) v (va_A [(aM, .inr (6, [.ref aMn, .ref aMt, .ref aMk, .int mU, .ref aMs, .int mB, .ref aMl, .int mI, .ref aMx, .int mH, .int mQ, .int mW, .ref aMd, .int mF, .int mR, .int mD, .int mJ, .int mA, .int mT])), (aMn, .inl (K 6, 55, .inl nN))] sz)) MC_X8_hasWagered MS_X8_hasWagered (va_A [(aM, .inr (6, [.ref aMn, .ref aMt, .ref aMk, .int mU, .ref aMs, .int mB, .ref aMl, .int mI, .ref aMx, .int mH, .int mQ, .int mW, .ref aMd, .int mF, .int mR, .int mD, .int mJ, .int mA, .int mT])), (aMn, .inl (K 6, 55, .inl nN))] sz)) := by
  refine pro (Qf := fun A => QI D (TY K) (wf_X8_hasWagered K aM aMn aMt aMk aMs aMl aMx aMd mU mB mI mH mQ mW mF mR mD mJ mA mT nN) v A) (cc := cX8_hasWagered) (maxL := 2) (ret := (some .boolean)) (by decide +kernel) rfl (Nat.le_of_ble_eq_true rfl) ?_
  intro p e s m args below meth c hx hb hr hts hown hlocks hml hini hK A hA hE hP hD hS ls hl
  have hown : s.vm.findClass RX8 = some m.cls := hown
  have hl : lv_has ls 2 [(0, .ref aM), (1, .int p1)] := hl
  rw [f_X8_hasWagered] at hF
  refine lv_aload_n hx hb dX8_hasWagered_0 rfl (lv_at hl 0 rfl) ?_
  refine lv_iload_n hx hb dX8_hasWagered_1 rfl (lv_at hl 1 rfl) ?_
  refine lv_iconst (v := (3 : Int32)) hx hb dX8_hasWagered_2 (by decide) ?_
  obtain ⟨v1, hv1, hF⟩ := oB hF
  refine call_i (wr := []) (wn := [(aM, .inr (6, [.ref aMn, .ref aMt, .ref aMk, .int mU, .ref aMs, .int mB, .ref aMl, .int mI, .ref aMx, .int mH, .int mQ, .int mW, .ref aMd, .int mF, .int mR, .int mD, .int mJ, .int mA, .int mT])), (aMn, .inl (K 6, 55, .inl nN))]) (va_runV (As := [.int p1, .int (3 : Int32)]) (rest := []) ⟨hx, hb, hml, hown, hts⟩ (c_X8_of l D K aM aMn aMt aMk aMs aMl aMx aMd mU mB mI mH mQ mW mF mR mD mJ mA mT nN p1 (3 : Int32) v1 hv1 s.heap.size) (cwV 2 hts gX8_hasWagered_X8_of rfl rfl rfl (by decide +kernel) ⟨(Nat.le_of_ble_eq_true rfl), (Nat.le_of_ble_eq_true rfl)⟩) (prV hE hK hP hD hS hA [0, 1] rfl rfl 6 0 rfl rfl rfl) rfl rfl hl.1 rfl (lv_room (Nat.le_of_ble_eq_true rfl)) dX8_hasWagered_3 ⟨(Nat.le_of_ble_eq_true rfl), (Nat.le_of_ble_eq_true rfl)⟩) hP hD hS hA [0, 1] [] [0, 1] rfl rfl rfl (by decide) rfl rfl (fun H locs hP hD hS => ?_)
  refine lv_if_le (tgt := 13) hx hb dX8_hasWagered_6 (by decide) (fun c2 => ?_) (fun c2 => ?_)
  · have hF := oT c2 hF
    refine lv_iconst (v := (0 : Int32)) hx hb dX8_hasWagered_13 (by decide) ?_
    exact fin_z (u := ((0 : Int32), ())) hF (okN_n (ty := .boolean) (x := (0 : Int32)) (by decide)) hx hb hr hlocks hK hP hD hS (Nat.le_of_ble_eq_true rfl) (Nat.le_of_ble_eq_true rfl) dX8_hasWagered_14
  · have hF := oF c2 hF
    refine lv_iconst (v := (1 : Int32)) hx hb dX8_hasWagered_9 (by decide) ?_
    refine lv_goto (tgt := 14) hx hb dX8_hasWagered_10 (by decide) ?_
    exact fin_z (u := ((1 : Int32), ())) hF (okN_n (ty := .boolean) (x := (1 : Int32)) (by decide)) hx hb hr hlocks hK hP hD hS (Nat.le_of_ble_eq_true rfl) (Nat.le_of_ble_eq_true rfl) dX8_hasWagered_14
abbrev RM_X8_pays : Room := { frames := 1, cells := 0, slots := 0, locals := 23 }
abbrev MC_X8_pays : Nat := 0
abbrev MS_X8_pays : Nat := 0
abbrev wf_X8_pays (K : Nat → ClassId) (aM : Nat) (aMn : Nat) (aMt : Nat) (aMk : Nat) (aMs : Nat) (aMl : Nat) (aMx : Nat) (aMd : Nat) (mU : Int32) (mB : Int32) (mI : Int32) (mH : Int32) (mQ : Int32) (mW : Int32) (mF : Int32) (mA : Int32) (mT : Int32) (v : Int32 × Int32 × Int32 × Int32 × (Nat → Int32)) : va_W := [(aM, .inr (6, [.ref aMn, .ref aMt, .ref aMk, .int mU, .ref aMs, .int mB, .ref aMl, .int mI, .ref aMx, .int mH, .int mQ, .int mW, .ref aMd, .int mF, .int v.2.1, .int v.2.2.1, .int v.2.2.2.1, .int mA, .int mT])), (aMn, .inl (K 6, 55, .inl v.2.2.2.2))]
set_option maxHeartbeats 4000000 in
set_option maxRecDepth 100000 in
theorem c_X8_pays (l : Launch) (D : va_G) (K : Nat → ClassId) (aM : Nat) (aMn : Nat) (aMt : Nat) (aMk : Nat) (aMs : Nat) (aMl : Nat) (aMx : Nat) (aMd : Nat) (mU : Int32) (mB : Int32) (mI : Int32) (mH : Int32) (mQ : Int32) (mW : Int32) (mF : Int32) (mR : Int32) (mD : Int32) (mJ : Int32) (mA : Int32) (mT : Int32) (nN : Nat → Int32) (p1 : Int32) (p2 : Int32) (v : Int32 × Int32 × Int32 × Int32 × (Nat → Int32)) (hF : f_X8_pays mR mD mJ nN p1 p2 = some v) (sz : Nat) :
    (Met l yX8_pays wsX8_pays RM_X8_pays (PC D (TY K) [(aM, .inr (6, [.ref aMn, .ref aMt, .ref aMk, .int mU, .ref aMs, .int mB, .ref aMl, .int mI, .ref aMx, .int mH, .int mQ, .int mW, .ref aMd, .int mF, .int mR, .int mD, .int mJ, .int mA, .int mT])), (aMn, .inl (K 6, 55, .inl nN))] [.ref aM, .int p1, .int p2] sz) (QI D (TY K) (wf_X8_pays K aM aMn aMt aMk aMs aMl aMx aMd mU mB mI mH mQ mW mF mA mT) v (va_A [(aM, .inr (6, [.ref aMn, .ref aMt, .ref aMk, .int mU, .ref aMs, .int mB, .ref aMl, .int mI, .ref aMx, .int mH, .int mQ, .int mW, .ref aMd, .int mF, .int mR, .int mD, .int mJ, .int mA, .int mT])), (aMn, .inl (K 6, 55, .inl nN))] sz)) MC_X8_pays MS_X8_pays (va_A [(aM, .inr (6, [.ref aMn, .ref aMt, .ref aMk, .int mU, .ref aMs, .int mB, .ref aMl, .int mI, .ref aMx, .int mH, .int mQ, .int mW, .ref aMd, .int mF, .int mR, .int mD, .int mJ, .int mA, .int mT])), (aMn, .inl (K 6, 55, .inl nN))] sz)) := by
  refine pro (Qf := fun A => QI D (TY K) (wf_X8_pays K aM aMn aMt aMk aMs aMl aMx aMd mU mB mI mH mQ mW mF mA mT) v A) (cc := cX8_pays) (maxL := 3) (ret := (some .boolean)) (by decide +kernel) rfl (Nat.le_of_ble_eq_true rfl) ?_
  intro p e s m args below meth c hx hb hr hts hown hlocks hml hini hK A hA hE hP hD hS ls hl
  have hown : s.vm.findClass RX8 = some m.cls := hown
  have hl : lv_has ls 3 [(0, .ref aM), (1, .int p1), (2, .int p2)] := hl
  rw [f_X8_pays] at hF
  refine lv_aload_n hx hb dX8_pays_0 rfl (lv_at hl 0 rfl) ?_
  refine lv_iload_n hx hb dX8_pays_1 rfl (lv_at hl 1 rfl) ?_
  refine lv_iconst (v := (0 : Int32)) hx hb dX8_pays_2 (by decide) ?_
  obtain ⟨v1, hv1, hF⟩ := oB hF
  refine call_i (wr := []) (wn := [(aM, .inr (6, [.ref aMn, .ref aMt, .ref aMk, .int mU, .ref aMs, .int mB, .ref aMl, .int mI, .ref aMx, .int mH, .int mQ, .int mW, .ref aMd, .int mF, .int mR, .int mD, .int mJ, .int mA, .int mT])), (aMn, .inl (K 6, 55, .inl nN))]) (va_runV (As := [.int p1, .int (0 : Int32)]) (rest := []) ⟨hx, hb, hml, hown, hts⟩ (c_X8_of l D K aM aMn aMt aMk aMs aMl aMx aMd mU mB mI mH mQ mW mF mR mD mJ mA mT nN p1 (0 : Int32) v1 hv1 s.heap.size) (cwV 2 hts gX8_pays_X8_of rfl rfl rfl (by decide +kernel) ⟨(Nat.le_of_ble_eq_true rfl), (Nat.le_of_ble_eq_true rfl)⟩) (prV hE hK hP hD hS hA [0, 1] rfl rfl 6 0 rfl rfl rfl) rfl rfl hl.1 rfl (lv_room (Nat.le_of_ble_eq_true rfl)) dX8_pays_3 ⟨(Nat.le_of_ble_eq_true rfl), (Nat.le_of_ble_eq_true rfl)⟩) hP hD hS hA [0, 1] [] [0, 1] rfl rfl rfl (by decide) rfl rfl (fun H locs hP hD hS => ?_)
  refine lv_iload_n hx hb dX8_pays_6 rfl (lv_at hl 2 rfl) ?_
  refine lv_icmp_ge (tgt := 24) hx hb dX8_pays_7 (by decide) (fun c2 => ?_) (fun c2 => ?_)
  · have hF := oT c2 hF
    refine lv_aload_n hx hb dX8_pays_24 rfl (lv_at hl 0 rfl) ?_
    refine lv_iload_n hx hb dX8_pays_25 rfl (lv_at hl 1 rfl) ?_
    refine lv_iconst (v := (0 : Int32)) hx hb dX8_pays_26 (by decide) ?_
    refine lv_aload_n hx hb dX8_pays_27 rfl (lv_at hl 0 rfl) ?_
    refine lv_iload_n hx hb dX8_pays_28 rfl (lv_at hl 1 rfl) ?_
    refine lv_iconst (v := (0 : Int32)) hx hb dX8_pays_29 (by decide) ?_
    obtain ⟨v3, hv3, hF⟩ := oB hF
    refine call_i (wr := []) (wn := [(aM, .inr (6, [.ref aMn, .ref aMt, .ref aMk, .int mU, .ref aMs, .int mB, .ref aMl, .int mI, .ref aMx, .int mH, .int mQ, .int mW, .ref aMd, .int mF, .int mR, .int mD, .int mJ, .int mA, .int mT])), (aMn, .inl (K 6, 55, .inl nN))]) (va_runV (As := [.int p1, .int (0 : Int32)]) (rest := [.int (0 : Int32), .int p1, .ref aM]) ⟨hx, hb, hml, hown, hts⟩ (c_X8_of l D K aM aMn aMt aMk aMs aMl aMx aMd mU mB mI mH mQ mW mF mR mD mJ mA mT nN p1 (0 : Int32) v3 hv3 H.size) (cwV 2 hts gX8_pays_X8_of rfl rfl rfl (by decide +kernel) ⟨(Nat.le_of_ble_eq_true rfl), (Nat.le_of_ble_eq_true rfl)⟩) (prV hE hK hP hD hS hA [0, 1] rfl rfl 6 0 rfl rfl rfl) rfl rfl hl.1 rfl (lv_room (Nat.le_of_ble_eq_true rfl)) dX8_pays_30 ⟨(Nat.le_of_ble_eq_true rfl), (Nat.le_of_ble_eq_true rfl)⟩) hP hD hS hA [0, 1] [] [0, 1] rfl rfl rfl (by decide) rfl rfl (fun H locs hP hD hS => ?_)
    refine lv_iload_n hx hb dX8_pays_33 rfl (lv_at hl 2 rfl) ?_
    refine lv_isub hx hb dX8_pays_34 ?_
    obtain ⟨v4, hv4, hF⟩ := oB hF
    refine call_v (wr := []) (wn := [(aM, .inr (6, [.ref aMn, .ref aMt, .ref aMk, .int mU, .ref aMs, .int mB, .ref aMl, .int mI, .ref aMx, .int mH, .int mQ, .int mW, .ref aMd, .int mF, .int mR, .int mD, .int mJ, .int mA, .int mT])), (aMn, .inl (K 6, 55, .inl v4))]) (va_runV (As := [.int p1, .int (0 : Int32), .int (v3.1 - p2)]) (rest := []) ⟨hx, hb, hml, hown, hts⟩ (c_X8_sets l D K aM aMn aMt aMk aMs aMl aMx aMd mU mB mI mH mQ mW mF mR mD mJ mA mT nN p1 (0 : Int32) (v3.1 - p2) v4 hv4 H.size) (cwV 3 hts gX8_pays_X8_sets rfl rfl rfl (by decide +kernel) ⟨(Nat.le_of_ble_eq_true rfl), (Nat.le_of_ble_eq_true rfl)⟩) (prV hE hK hP hD hS hA [0, 1] rfl rfl 6 0 rfl rfl rfl) rfl rfl hl.1 rfl (lv_room (Nat.le_of_ble_eq_true rfl)) dX8_pays_35 ⟨(Nat.le_of_ble_eq_true rfl), (Nat.le_of_ble_eq_true rfl)⟩) hP hD hS hA [0, 1] [] [0, 1] rfl rfl rfl (by decide) rfl rfl (fun H locs hP hD hS => ?_)
    refine lv_aload_n hx hb dX8_pays_38 rfl (lv_at hl 0 rfl) ?_
    refine va_get (D := D) (ci := 6) (v := .ref aMn) (C := RX8) (T := TX8) (N := 19) hx hb hts (fun _ h => List.mem_cons_of_mem _ (List.mem_append_left _ (List.mem_append_right _ h))) hown hK hP 0 rfl rfl 0 (by decide) (hts (.fieldLink RX8 9 "BarometerClubModel" "now" "[I") (List.mem_of_getElem? (i := 1) rfl)) (fun _ h9 => h9) rfl dX8_pays_39 ?_
    refine lv_bipush (v := (7 : Int32)) hx hb dX8_pays_42 (by decide) ?_
    refine lv_dup2_11 hx hb dX8_pays_44 rfl rfl ?_
    refine va_iald hx hb hK hP 1 6 rfl rfl (inB_in (by decide : inB (7 : Int32) 55 = true)) dX8_pays_45 ?_
    refine lv_iload_n hx hb dX8_pays_46 rfl (lv_at hl 2 rfl) ?_
    refine lv_iadd hx hb dX8_pays_47 ?_
    refine va_iast hx hb hK hP hD hS 1 6 rfl rfl (inB_in (by decide : inB (7 : Int32) 55 = true)) dX8_pays_48 (fun H locs hP hD hS => ?_)
    have hP : va_P D vwC7 [(aM, .inr (6, [.ref aMn, .ref aMt, .ref aMk, .int mU, .ref aMs, .int mB, .ref aMl, .int mI, .ref aMx, .int mH, .int mQ, .int mW, .ref aMd, .int mF, .int mR, .int mD, .int mJ, .int mA, .int mT])), (aMn, .inl (K 6, 55, .inl (upd v4 (7 : Int32).toNatClampNeg ((v4 (7 : Int32).toNatClampNeg) + p2))))] H := hP
    have hD : va_D A [(aM, .inr (6, [.ref aMn, .ref aMt, .ref aMk, .int mU, .ref aMs, .int mB, .ref aMl, .int mI, .ref aMx, .int mH, .int mQ, .int mW, .ref aMd, .int mF, .int mR, .int mD, .int mJ, .int mA, .int mT])), (aMn, .inl (K 6, 55, .inl (upd v4 (7 : Int32).toNatClampNeg ((v4 (7 : Int32).toNatClampNeg) + p2))))] := hD
    refine lv_iconst (v := (1 : Int32)) hx hb dX8_pays_49 (by decide) ?_
    exact fin_z (u := ((1 : Int32), (mR, mD, mJ, upd v4 (7 : Int32).toNatClampNeg ((v4 (7 : Int32).toNatClampNeg) + p2)))) hF (okN_n (ty := .boolean) (x := (1 : Int32)) (by decide)) hx hb hr hlocks hK hP hD hS (Nat.le_of_ble_eq_true rfl) (Nat.le_of_ble_eq_true rfl) dX8_pays_50
  · have hF := oF c2 hF
    refine lv_aload_n hx hb dX8_pays_10 rfl (lv_at hl 0 rfl) ?_
    refine lv_iconst (v := (5 : Int32)) hx hb dX8_pays_11 (by decide) ?_
    refine lv_iload_n hx hb dX8_pays_12 rfl (lv_at hl 2 rfl) ?_
    refine lv_aload_n hx hb dX8_pays_13 rfl (lv_at hl 0 rfl) ?_
    refine lv_iload_n hx hb dX8_pays_14 rfl (lv_at hl 1 rfl) ?_
    refine lv_iconst (v := (0 : Int32)) hx hb dX8_pays_15 (by decide) ?_
    obtain ⟨v5, hv5, hF⟩ := oB hF
    refine call_i (wr := []) (wn := [(aM, .inr (6, [.ref aMn, .ref aMt, .ref aMk, .int mU, .ref aMs, .int mB, .ref aMl, .int mI, .ref aMx, .int mH, .int mQ, .int mW, .ref aMd, .int mF, .int mR, .int mD, .int mJ, .int mA, .int mT])), (aMn, .inl (K 6, 55, .inl nN))]) (va_runV (As := [.int p1, .int (0 : Int32)]) (rest := [.int p2, .int (5 : Int32), .ref aM]) ⟨hx, hb, hml, hown, hts⟩ (c_X8_of l D K aM aMn aMt aMk aMs aMl aMx aMd mU mB mI mH mQ mW mF mR mD mJ mA mT nN p1 (0 : Int32) v5 hv5 H.size) (cwV 2 hts gX8_pays_X8_of rfl rfl rfl (by decide +kernel) ⟨(Nat.le_of_ble_eq_true rfl), (Nat.le_of_ble_eq_true rfl)⟩) (prV hE hK hP hD hS hA [0, 1] rfl rfl 6 0 rfl rfl rfl) rfl rfl hl.1 rfl (lv_room (Nat.le_of_ble_eq_true rfl)) dX8_pays_16 ⟨(Nat.le_of_ble_eq_true rfl), (Nat.le_of_ble_eq_true rfl)⟩) hP hD hS hA [0, 1] [] [0, 1] rfl rfl rfl (by decide) rfl rfl (fun H locs hP hD hS => ?_)
    refine lv_isub hx hb dX8_pays_19 ?_
    obtain ⟨v6, hv6, hF⟩ := oB hF
    refine call_i (wr := [(aMn, .inl (K 6, 55, .inl nN))]) (wn := [(aM, .inr (6, [.ref aMn, .ref aMt, .ref aMk, .int mU, .ref aMs, .int mB, .ref aMl, .int mI, .ref aMx, .int mH, .int mQ, .int mW, .ref aMd, .int mF, .int v6.2.1, .int v6.2.2.1, .int v6.2.2.2, .int mA, .int mT])), (aMn, .inl (K 6, 55, .inl nN))]) (va_runV (As := [.int (5 : Int32), .int (p2 - v5.1)]) (rest := []) ⟨hx, hb, hml, hown, hts⟩ (c_X8_refuses l D K aM aMn aMt aMk aMs aMl aMx aMd mU mB mI mH mQ mW mF mR mD mJ mA mT (5 : Int32) (p2 - v5.1) v6 hv6 H.size) (cwV 2 hts gX8_pays_X8_refuses rfl rfl rfl (by decide +kernel) ⟨(Nat.le_of_ble_eq_true rfl), (Nat.le_of_ble_eq_true rfl)⟩) (prV hE hK hP hD hS hA [0] rfl rfl 6 0 rfl rfl rfl) rfl rfl hl.1 rfl (lv_room (Nat.le_of_ble_eq_true rfl)) dX8_pays_20 ⟨(Nat.le_of_ble_eq_true rfl), (Nat.le_of_ble_eq_true rfl)⟩) hP hD hS hA [0] [1] [1, 0] rfl rfl rfl (by decide) rfl rfl (fun H locs hP hD hS => ?_)
    obtain ⟨g7, hF⟩ := oG hF
    exact fin_z (u := (v6.1, (v6.2.1, v6.2.2.1, v6.2.2.2, nN))) hF (okN_n g7) hx hb hr hlocks hK hP hD hS (Nat.le_of_ble_eq_true rfl) (Nat.le_of_ble_eq_true rfl) dX8_pays_23
abbrev RM_X8_joins : Room := { frames := 2, cells := 0, slots := 0, locals := 44 }
abbrev MC_X8_joins : Nat := 0
abbrev MS_X8_joins : Nat := 0
abbrev wf_X8_joins (K : Nat → ClassId) (aM : Nat) (aMn : Nat) (aMt : Nat) (aMk : Nat) (aMs : Nat) (aMl : Nat) (aMx : Nat) (aMd : Nat) (mU : Int32) (mB : Int32) (mI : Int32) (mH : Int32) (mQ : Int32) (mW : Int32) (mF : Int32) (mT : Int32) (v : Int32 × Int32 × Int32 × Int32 × Int32 × (Nat → Int32)) : va_W := [(aM, .inr (6, [.ref aMn, .ref aMt, .ref aMk, .int mU, .ref aMs, .int mB, .ref aMl, .int mI, .ref aMx, .int mH, .int mQ, .int mW, .ref aMd, .int mF, .int v.2.1, .int v.2.2.1, .int v.2.2.2.1, .int v.2.2.2.2.1, .int mT])), (aMn, .inl (K 6, 55, .inl v.2.2.2.2.2))]
set_option maxHeartbeats 4000000 in
set_option maxRecDepth 100000 in
theorem c_X8_joins (l : Launch) (D : va_G) (K : Nat → ClassId) (aM : Nat) (aMn : Nat) (aMt : Nat) (aMk : Nat) (aMs : Nat) (aMl : Nat) (aMx : Nat) (aMd : Nat) (mU : Int32) (mB : Int32) (mI : Int32) (mH : Int32) (mQ : Int32) (mW : Int32) (mF : Int32) (mR : Int32) (mD : Int32) (mJ : Int32) (mA : Int32) (mT : Int32) (nN : Nat → Int32) (p1 : Int32) (v : Int32 × Int32 × Int32 × Int32 × Int32 × (Nat → Int32)) (hF : f_X8_joins mR mD mJ mA nN p1 = some v) (sz : Nat) :
    (Met l yX8_joins wsX8_joins RM_X8_joins (PC D (TY K) [(aM, .inr (6, [.ref aMn, .ref aMt, .ref aMk, .int mU, .ref aMs, .int mB, .ref aMl, .int mI, .ref aMx, .int mH, .int mQ, .int mW, .ref aMd, .int mF, .int mR, .int mD, .int mJ, .int mA, .int mT])), (aMn, .inl (K 6, 55, .inl nN))] [.ref aM, .int p1] sz) (QI D (TY K) (wf_X8_joins K aM aMn aMt aMk aMs aMl aMx aMd mU mB mI mH mQ mW mF mT) v (va_A [(aM, .inr (6, [.ref aMn, .ref aMt, .ref aMk, .int mU, .ref aMs, .int mB, .ref aMl, .int mI, .ref aMx, .int mH, .int mQ, .int mW, .ref aMd, .int mF, .int mR, .int mD, .int mJ, .int mA, .int mT])), (aMn, .inl (K 6, 55, .inl nN))] sz)) MC_X8_joins MS_X8_joins (va_A [(aM, .inr (6, [.ref aMn, .ref aMt, .ref aMk, .int mU, .ref aMs, .int mB, .ref aMl, .int mI, .ref aMx, .int mH, .int mQ, .int mW, .ref aMd, .int mF, .int mR, .int mD, .int mJ, .int mA, .int mT])), (aMn, .inl (K 6, 55, .inl nN))] sz)) := by
  refine pro (Qf := fun A => QI D (TY K) (wf_X8_joins K aM aMn aMt aMk aMs aMl aMx aMd mU mB mI mH mQ mW mF mT) v A) (cc := cX8_joins) (maxL := 4) (ret := (some .boolean)) (by decide +kernel) rfl (Nat.le_of_ble_eq_true rfl) ?_
  intro p e s m args below meth c hx hb hr hts hown hlocks hml hini hK A hA hE hP hD hS ls hl
  have hown : s.vm.findClass RX8 = some m.cls := hown
  have hl : lv_has ls 4 [(0, .ref aM), (1, .int p1)] := hl
  have loop_69 : ∀ (y69_1 : Int32) (y69_2 : Int32) (mR_69 : Int32) (mD_69 : Int32) (mJ_69 : Int32) (mA_69 : Int32) (n : Nat) (y69_3 : Int32) (nN_69 : Nat → Int32), f_X8_joins_L69 y69_1 y69_2 mR_69 mD_69 mJ_69 mA_69 n y69_3 nN_69 = some v → ∀ (H : Heap) (locs : List Loc), va_P D vwC7 [(aM, .inr (6, [.ref aMn, .ref aMt, .ref aMk, .int mU, .ref aMs, .int mB, .ref aMl, .int mI, .ref aMx, .int mH, .int mQ, .int mW, .ref aMd, .int mF, .int mR_69, .int mD_69, .int mJ_69, .int mA_69, .int mT])), (aMn, .inl (K 6, 55, .inl nN_69))] H → va_D A [(aM, .inr (6, [.ref aMn, .ref aMt, .ref aMk, .int mU, .ref aMs, .int mB, .ref aMl, .int mI, .ref aMx, .int mH, .int mQ, .int mW, .ref aMd, .int mF, .int mR_69, .int mD_69, .int mJ_69, .int mA_69, .int mT])), (aMn, .inl (K 6, 55, .inl nN_69))] → va_S A s.heap H locs → ∀ ls : Array Slot, lv_has ls 4 [(0, .ref aM), (1, .int y69_1), (2, .int y69_2), (3, .int y69_3)] → W p l e RM_X8_joins s m args below meth c H locs 0 0 (MQ below (QI D (TY K) (wf_X8_joins K aM aMn aMt aMk aMs aMl aMx aMd mU mB mI mH mQ mW mF mT) v A) args s MC_X8_joins MS_X8_joins A) (F0 m 69 ls []) := by
    intro y69_1 y69_2 mR_69 mD_69 mJ_69 mA_69 n
    induction n with
    | zero =>
      intro y69_3 nN_69 hF
      exact nomatch hF
    | succ n ih =>
      intro y69_3 nN_69 hF H locs hP hD hS ls hl
      rw [f_X8_joins_L69.eq_2] at hF
      refine lv_iload_n hx hb dX8_joins_69 rfl (lv_at hl 3 rfl) ?_
      refine lv_bipush (v := (7 : Int32)) hx hb dX8_joins_70 (by decide) ?_
      refine lv_icmp_ge (tgt := 88) hx hb dX8_joins_72 (by decide) (fun c6 => ?_) (fun c6 => ?_)
      · have hF := oT c6 hF
        refine lv_aload_n hx hb dX8_joins_88 rfl (lv_at hl 0 rfl) ?_
        refine lv_iload_n hx hb dX8_joins_89 rfl (lv_at hl 2 rfl) ?_
        refine lv_iconst (v := (0 : Int32)) hx hb dX8_joins_90 (by decide) ?_
        refine lv_bipush (v := (50 : Int32)) hx hb dX8_joins_91 (by decide) ?_
        obtain ⟨v7, hv7, hF⟩ := oB hF
        refine call_v (wr := []) (wn := [(aM, .inr (6, [.ref aMn, .ref aMt, .ref aMk, .int mU, .ref aMs, .int mB, .ref aMl, .int mI, .ref aMx, .int mH, .int mQ, .int mW, .ref aMd, .int mF, .int mR_69, .int mD_69, .int mJ_69, .int mA_69, .int mT])), (aMn, .inl (K 6, 55, .inl v7))]) (va_runV (As := [.int y69_2, .int (0 : Int32), .int (50 : Int32)]) (rest := []) ⟨hx, hb, hml, hown, hts⟩ (c_X8_sets l D K aM aMn aMt aMk aMs aMl aMx aMd mU mB mI mH mQ mW mF mR_69 mD_69 mJ_69 mA_69 mT nN_69 y69_2 (0 : Int32) (50 : Int32) v7 hv7 H.size) (cwV 3 hts gX8_joins_X8_sets rfl rfl rfl (by decide +kernel) ⟨(Nat.le_of_ble_eq_true rfl), (Nat.le_of_ble_eq_true rfl)⟩) (prV hE hK hP hD hS hA [0, 1] rfl rfl 6 0 rfl rfl rfl) rfl rfl hl.1 rfl (lv_room (Nat.le_of_ble_eq_true rfl)) dX8_joins_93 ⟨(Nat.le_of_ble_eq_true rfl), (Nat.le_of_ble_eq_true rfl)⟩) hP hD hS hA [0, 1] [] [0, 1] rfl rfl rfl (by decide) rfl rfl (fun H locs hP hD hS => ?_)
        refine lv_aload_n hx hb dX8_joins_96 rfl (lv_at hl 0 rfl) ?_
        refine lv_iload_n hx hb dX8_joins_97 rfl (lv_at hl 2 rfl) ?_
        refine lv_iconst (v := (1 : Int32)) hx hb dX8_joins_98 (by decide) ?_
        refine lv_iload_n hx hb dX8_joins_99 rfl (lv_at hl 1 rfl) ?_
        obtain ⟨v8, hv8, hF⟩ := oB hF
        refine call_v (wr := []) (wn := [(aM, .inr (6, [.ref aMn, .ref aMt, .ref aMk, .int mU, .ref aMs, .int mB, .ref aMl, .int mI, .ref aMx, .int mH, .int mQ, .int mW, .ref aMd, .int mF, .int mR_69, .int mD_69, .int mJ_69, .int mA_69, .int mT])), (aMn, .inl (K 6, 55, .inl v8))]) (va_runV (As := [.int y69_2, .int (1 : Int32), .int y69_1]) (rest := []) ⟨hx, hb, hml, hown, hts⟩ (c_X8_sets l D K aM aMn aMt aMk aMs aMl aMx aMd mU mB mI mH mQ mW mF mR_69 mD_69 mJ_69 mA_69 mT v7 y69_2 (1 : Int32) y69_1 v8 hv8 H.size) (cwV 3 hts gX8_joins_X8_sets rfl rfl rfl (by decide +kernel) ⟨(Nat.le_of_ble_eq_true rfl), (Nat.le_of_ble_eq_true rfl)⟩) (prV hE hK hP hD hS hA [0, 1] rfl rfl 6 0 rfl rfl rfl) rfl rfl hl.1 rfl (lv_room (Nat.le_of_ble_eq_true rfl)) dX8_joins_100 ⟨(Nat.le_of_ble_eq_true rfl), (Nat.le_of_ble_eq_true rfl)⟩) hP hD hS hA [0, 1] [] [0, 1] rfl rfl rfl (by decide) rfl rfl (fun H locs hP hD hS => ?_)
        refine lv_aload_n hx hb dX8_joins_103 rfl (lv_at hl 0 rfl) ?_
        refine va_get (D := D) (ci := 6) (v := .ref aMn) (C := RX8) (T := TX8) (N := 19) hx hb hts (fun _ h => List.mem_cons_of_mem _ (List.mem_append_left _ (List.mem_append_right _ h))) hown hK hP 0 rfl rfl 0 (by decide) (hts (.fieldLink RX8 9 "BarometerClubModel" "now" "[I") (List.mem_of_getElem? (i := 1) rfl)) (fun _ h9 => h9) rfl dX8_joins_104 ?_
        refine lv_bipush (v := (11 : Int32)) hx hb dX8_joins_107 (by decide) ?_
        refine lv_dup2_11 hx hb dX8_joins_109 rfl rfl ?_
        refine va_iald hx hb hK hP 1 6 rfl rfl (inB_in (by decide : inB (11 : Int32) 55 = true)) dX8_joins_110 ?_
        refine lv_bipush (v := (50 : Int32)) hx hb dX8_joins_111 (by decide) ?_
        refine lv_iadd hx hb dX8_joins_113 ?_
        refine va_iast hx hb hK hP hD hS 1 6 rfl rfl (inB_in (by decide : inB (11 : Int32) 55 = true)) dX8_joins_114 (fun H locs hP hD hS => ?_)
        have hP : va_P D vwC7 [(aM, .inr (6, [.ref aMn, .ref aMt, .ref aMk, .int mU, .ref aMs, .int mB, .ref aMl, .int mI, .ref aMx, .int mH, .int mQ, .int mW, .ref aMd, .int mF, .int mR_69, .int mD_69, .int mJ_69, .int mA_69, .int mT])), (aMn, .inl (K 6, 55, .inl (upd v8 (11 : Int32).toNatClampNeg ((v8 (11 : Int32).toNatClampNeg) + (50 : Int32)))))] H := hP
        have hD : va_D A [(aM, .inr (6, [.ref aMn, .ref aMt, .ref aMk, .int mU, .ref aMs, .int mB, .ref aMl, .int mI, .ref aMx, .int mH, .int mQ, .int mW, .ref aMd, .int mF, .int mR_69, .int mD_69, .int mJ_69, .int mA_69, .int mT])), (aMn, .inl (K 6, 55, .inl (upd v8 (11 : Int32).toNatClampNeg ((v8 (11 : Int32).toNatClampNeg) + (50 : Int32)))))] := hD
        refine lv_aload_n hx hb dX8_joins_115 rfl (lv_at hl 0 rfl) ?_
        refine lv_iload_n hx hb dX8_joins_116 rfl (lv_at hl 2 rfl) ?_
        obtain ⟨v9, hv9, hF⟩ := oB hF
        refine call_i (wr := [(aMn, .inl (K 6, 55, .inl (upd v8 (11 : Int32).toNatClampNeg ((v8 (11 : Int32).toNatClampNeg) + (50 : Int32)))))]) (wn := [(aM, .inr (6, [.ref aMn, .ref aMt, .ref aMk, .int mU, .ref aMs, .int mB, .ref aMl, .int mI, .ref aMx, .int mH, .int mQ, .int mW, .ref aMd, .int mF, .int mR_69, .int mD_69, .int mJ_69, .int v9.2, .int mT])), (aMn, .inl (K 6, 55, .inl (upd v8 (11 : Int32).toNatClampNeg ((v8 (11 : Int32).toNatClampNeg) + (50 : Int32)))))]) (va_runV (As := [.int y69_2]) (rest := []) ⟨hx, hb, hml, hown, hts⟩ (c_X8_does l D K aM aMn aMt aMk aMs aMl aMx aMd mU mB mI mH mQ mW mF mR_69 mD_69 mJ_69 mA_69 mT y69_2 v9 hv9 H.size) (cwV 1 hts gX8_joins_X8_does rfl rfl rfl (by decide +kernel) ⟨(Nat.le_of_ble_eq_true rfl), (Nat.le_of_ble_eq_true rfl)⟩) (prV hE hK hP hD hS hA [0] rfl rfl 6 0 rfl rfl rfl) rfl rfl hl.1 rfl (lv_room (Nat.le_of_ble_eq_true rfl)) dX8_joins_117 ⟨(Nat.le_of_ble_eq_true rfl), (Nat.le_of_ble_eq_true rfl)⟩) hP hD hS hA [0] [1] [1, 0] rfl rfl rfl (by decide) rfl rfl (fun H locs hP hD hS => ?_)
        obtain ⟨g10, hF⟩ := oG hF
        exact fin_z (u := (v9.1, (mR_69, mD_69, mJ_69, v9.2, upd v8 (11 : Int32).toNatClampNeg ((v8 (11 : Int32).toNatClampNeg) + (50 : Int32))))) hF (okN_n g10) hx hb hr hlocks hK hP hD hS (Nat.le_of_ble_eq_true rfl) (Nat.le_of_ble_eq_true rfl) dX8_joins_120
      · have hF := oF c6 hF
        refine lv_aload_n hx hb dX8_joins_75 rfl (lv_at hl 0 rfl) ?_
        refine lv_iload_n hx hb dX8_joins_76 rfl (lv_at hl 2 rfl) ?_
        refine lv_iload_n hx hb dX8_joins_77 rfl (lv_at hl 3 rfl) ?_
        refine lv_iconst (v := (0 : Int32)) hx hb dX8_joins_78 (by decide) ?_
        obtain ⟨v11, hv11, hF⟩ := oB hF
        refine call_v (wr := []) (wn := [(aM, .inr (6, [.ref aMn, .ref aMt, .ref aMk, .int mU, .ref aMs, .int mB, .ref aMl, .int mI, .ref aMx, .int mH, .int mQ, .int mW, .ref aMd, .int mF, .int mR_69, .int mD_69, .int mJ_69, .int mA_69, .int mT])), (aMn, .inl (K 6, 55, .inl v11))]) (va_runV (As := [.int y69_2, .int y69_3, .int (0 : Int32)]) (rest := []) ⟨hx, hb, hml, hown, hts⟩ (c_X8_sets l D K aM aMn aMt aMk aMs aMl aMx aMd mU mB mI mH mQ mW mF mR_69 mD_69 mJ_69 mA_69 mT nN_69 y69_2 y69_3 (0 : Int32) v11 hv11 H.size) (cwV 3 hts gX8_joins_X8_sets rfl rfl rfl (by decide +kernel) ⟨(Nat.le_of_ble_eq_true rfl), (Nat.le_of_ble_eq_true rfl)⟩) (prV hE hK hP hD hS hA [0, 1] rfl rfl 6 0 rfl rfl rfl) rfl rfl hl.1 rfl (lv_room (Nat.le_of_ble_eq_true rfl)) dX8_joins_79 ⟨(Nat.le_of_ble_eq_true rfl), (Nat.le_of_ble_eq_true rfl)⟩) hP hD hS hA [0, 1] [] [0, 1] rfl rfl rfl (by decide) rfl rfl (fun H locs hP hD hS => ?_)
        refine lv_iinc (v := y69_3 + (1 : Int32)) (lv' := [(3, .int (y69_3 + (1 : Int32))), (0, .ref aM), (1, .int y69_1), (2, .int y69_2)]) hx hb dX8_joins_82 hl (k := 3) rfl (by first | rfl | decide) (by decide) rfl (fun ls hl => ?_)
        refine lv_goto (tgt := 69) hx hb dX8_joins_85 (by decide) ?_
        exact ih (y69_3 + (1 : Int32)) v11 hF _ _ hP hD hS _ (lv_sub hl [1, 2, 3, 0] rfl)
  rw [f_X8_joins] at hF
  refine lv_iload_n hx hb dX8_joins_0 rfl (lv_at hl 1 rfl) ?_
  refine lv_iconst (v := (0 : Int32)) hx hb dX8_joins_1 (by decide) ?_
  refine lv_bipush (v := (9 : Int32)) hx hb dX8_joins_2 (by decide) ?_
  obtain ⟨v1, hv1, hF⟩ := oB hF
  refine call_i (wr := [(aM, .inr (6, [.ref aMn, .ref aMt, .ref aMk, .int mU, .ref aMs, .int mB, .ref aMl, .int mI, .ref aMx, .int mH, .int mQ, .int mW, .ref aMd, .int mF, .int mR, .int mD, .int mJ, .int mA, .int mT])), (aMn, .inl (K 6, 55, .inl nN))]) (wn := [(aM, .inr (6, [.ref aMn, .ref aMt, .ref aMk, .int mU, .ref aMs, .int mB, .ref aMl, .int mI, .ref aMx, .int mH, .int mQ, .int mW, .ref aMd, .int mF, .int mR, .int mD, .int mJ, .int mA, .int mT])), (aMn, .inl (K 6, 55, .inl nN))]) (va_runS (As := [.int p1, .int (0 : Int32), .int (9 : Int32)]) (rest := []) ⟨hx, hb, hml, hown, hts⟩ (c_X8_in l D K p1 (0 : Int32) (9 : Int32) v1 hv1 s.heap.size) (va_cwS 3 hts gX8_joins_X8_in rfl rfl rfl (by decide +kernel) ⟨(Nat.le_of_ble_eq_true rfl), (Nat.le_of_ble_eq_true rfl)⟩) (prS hE hK hP hD hS hA [] rfl rfl) rfl rfl hl.1 rfl (lv_room (Nat.le_of_ble_eq_true rfl)) dX8_joins_4 ⟨(Nat.le_of_ble_eq_true rfl), (Nat.le_of_ble_eq_true rfl)⟩) hP hD hS hA [] [0, 1] [0, 1] rfl rfl rfl (by decide) rfl rfl (fun H locs hP hD hS => ?_)
  refine lv_if_ne (tgt := 17) hx hb dX8_joins_7 (by decide) (fun c2 => ?_) (fun c2 => ?_)
  · have hF := oF c2 hF
    refine lv_aload_n hx hb dX8_joins_17 rfl (lv_at hl 0 rfl) ?_
    refine va_get (D := D) (ci := 6) (v := .ref aMn) (C := RX8) (T := TX8) (N := 19) hx hb hts (fun _ h => List.mem_cons_of_mem _ (List.mem_append_left _ (List.mem_append_right _ h))) hown hK hP 0 rfl rfl 0 (by decide) (hts (.fieldLink RX8 9 "BarometerClubModel" "now" "[I") (List.mem_of_getElem? (i := 1) rfl)) (fun _ h9 => h9) rfl dX8_joins_18 ?_
    refine lv_iconst (v := (0 : Int32)) hx hb dX8_joins_21 (by decide) ?_
    refine va_iald hx hb hK hP 1 6 rfl rfl (inB_in (by decide : inB (0 : Int32) 55 = true)) dX8_joins_22 ?_
    refine lv_bipush (v := (6 : Int32)) hx hb dX8_joins_23 (by decide) ?_
    refine lv_icmp_ne (tgt := 36) hx hb dX8_joins_25 (by decide) (fun c3 => ?_) (fun c3 => ?_)
    · have hF := oF c3 hF
      refine lv_aload_n hx hb dX8_joins_36 rfl (lv_at hl 0 rfl) ?_
      refine lv_iload_n hx hb dX8_joins_37 rfl (lv_at hl 1 rfl) ?_
      obtain ⟨v4, hv4, hF⟩ := oB hF
      refine call_i (wr := []) (wn := [(aM, .inr (6, [.ref aMn, .ref aMt, .ref aMk, .int mU, .ref aMs, .int mB, .ref aMl, .int mI, .ref aMx, .int mH, .int mQ, .int mW, .ref aMd, .int mF, .int mR, .int mD, .int mJ, .int mA, .int mT])), (aMn, .inl (K 6, 55, .inl nN))]) (va_runV (As := [.int p1]) (rest := []) ⟨hx, hb, hml, hown, hts⟩ (c_X8_ownerOf l D K aM aMn aMt aMk aMs aMl aMx aMd mU mB mI mH mQ mW mF mR mD mJ mA mT nN p1 v4 hv4 H.size) (cwV 1 hts gX8_joins_X8_ownerOf rfl rfl rfl (by decide +kernel) ⟨(Nat.le_of_ble_eq_true rfl), (Nat.le_of_ble_eq_true rfl)⟩) (prV hE hK hP hD hS hA [0, 1] rfl rfl 6 0 rfl rfl rfl) rfl rfl hl.1 rfl (lv_room (Nat.le_of_ble_eq_true rfl)) dX8_joins_38 ⟨(Nat.le_of_ble_eq_true rfl), (Nat.le_of_ble_eq_true rfl)⟩) hP hD hS hA [0, 1] [] [0, 1] rfl rfl rfl (by decide) rfl rfl (fun H locs hP hD hS => ?_)
      refine lv_if_lt (tgt := 55) hx hb dX8_joins_41 (by decide) (fun c5 => ?_) (fun c5 => ?_)
      · have hF := oT c5 hF
        refine lv_aload_n hx hb dX8_joins_55 rfl (lv_at hl 0 rfl) ?_
        refine va_get (D := D) (ci := 6) (v := .ref aMn) (C := RX8) (T := TX8) (N := 19) hx hb hts (fun _ h => List.mem_cons_of_mem _ (List.mem_append_left _ (List.mem_append_right _ h))) hown hK hP 0 rfl rfl 0 (by decide) (hts (.fieldLink RX8 9 "BarometerClubModel" "now" "[I") (List.mem_of_getElem? (i := 1) rfl)) (fun _ h9 => h9) rfl dX8_joins_56 ?_
        refine lv_iconst (v := (0 : Int32)) hx hb dX8_joins_59 (by decide) ?_
        refine lv_dup2_11 hx hb dX8_joins_60 rfl rfl ?_
        refine va_iald hx hb hK hP 1 6 rfl rfl (inB_in (by decide : inB (0 : Int32) 55 = true)) dX8_joins_61 ?_
        refine lv_dup_x2 hx hb dX8_joins_62 rfl rfl rfl ?_
        refine lv_iconst (v := (1 : Int32)) hx hb dX8_joins_63 (by decide) ?_
        refine lv_iadd hx hb dX8_joins_64 ?_
        refine va_iast hx hb hK hP hD hS 1 6 rfl rfl (inB_in (by decide : inB (0 : Int32) 55 = true)) dX8_joins_65 (fun H locs hP hD hS => ?_)
        have hP : va_P D vwC7 [(aM, .inr (6, [.ref aMn, .ref aMt, .ref aMk, .int mU, .ref aMs, .int mB, .ref aMl, .int mI, .ref aMx, .int mH, .int mQ, .int mW, .ref aMd, .int mF, .int mR, .int mD, .int mJ, .int mA, .int mT])), (aMn, .inl (K 6, 55, .inl (upd nN (0 : Int32).toNatClampNeg ((nN (0 : Int32).toNatClampNeg) + (1 : Int32)))))] H := hP
        have hD : va_D A [(aM, .inr (6, [.ref aMn, .ref aMt, .ref aMk, .int mU, .ref aMs, .int mB, .ref aMl, .int mI, .ref aMx, .int mH, .int mQ, .int mW, .ref aMd, .int mF, .int mR, .int mD, .int mJ, .int mA, .int mT])), (aMn, .inl (K 6, 55, .inl (upd nN (0 : Int32).toNatClampNeg ((nN (0 : Int32).toNatClampNeg) + (1 : Int32)))))] := hD
        refine lv_istore_n (lv' := [(2, .int (nN (0 : Int32).toNatClampNeg)), (0, .ref aM), (1, .int p1)]) hx hb dX8_joins_66 rfl hl (by decide) rfl (fun ls hl => ?_)
        refine lv_iconst (v := (0 : Int32)) hx hb dX8_joins_67 (by decide) ?_
        refine lv_istore_n (lv' := [(3, .int (0 : Int32)), (2, .int (nN (0 : Int32).toNatClampNeg)), (0, .ref aM), (1, .int p1)]) hx hb dX8_joins_68 rfl hl (by decide) rfl (fun ls hl => ?_)
        exact loop_69 p1 (nN (0 : Int32).toNatClampNeg) mR mD mJ mA FU (0 : Int32) (upd nN (0 : Int32).toNatClampNeg ((nN (0 : Int32).toNatClampNeg) + (1 : Int32))) hF _ _ hP hD hS _ (lv_sub hl [2, 3, 1, 0] rfl)
      · have hF := oF c5 hF
        refine lv_aload_n hx hb dX8_joins_44 rfl (lv_at hl 0 rfl) ?_
        refine lv_iconst (v := (3 : Int32)) hx hb dX8_joins_45 (by decide) ?_
        refine lv_aload_n hx hb dX8_joins_46 rfl (lv_at hl 0 rfl) ?_
        refine lv_iload_n hx hb dX8_joins_47 rfl (lv_at hl 1 rfl) ?_
        obtain ⟨v12, hv12, hF⟩ := oB hF
        refine call_i (wr := []) (wn := [(aM, .inr (6, [.ref aMn, .ref aMt, .ref aMk, .int mU, .ref aMs, .int mB, .ref aMl, .int mI, .ref aMx, .int mH, .int mQ, .int mW, .ref aMd, .int mF, .int mR, .int mD, .int mJ, .int mA, .int mT])), (aMn, .inl (K 6, 55, .inl nN))]) (va_runV (As := [.int p1]) (rest := [.int (3 : Int32), .ref aM]) ⟨hx, hb, hml, hown, hts⟩ (c_X8_ownerOf l D K aM aMn aMt aMk aMs aMl aMx aMd mU mB mI mH mQ mW mF mR mD mJ mA mT nN p1 v12 hv12 H.size) (cwV 1 hts gX8_joins_X8_ownerOf rfl rfl rfl (by decide +kernel) ⟨(Nat.le_of_ble_eq_true rfl), (Nat.le_of_ble_eq_true rfl)⟩) (prV hE hK hP hD hS hA [0, 1] rfl rfl 6 0 rfl rfl rfl) rfl rfl hl.1 rfl (lv_room (Nat.le_of_ble_eq_true rfl)) dX8_joins_48 ⟨(Nat.le_of_ble_eq_true rfl), (Nat.le_of_ble_eq_true rfl)⟩) hP hD hS hA [0, 1] [] [0, 1] rfl rfl rfl (by decide) rfl rfl (fun H locs hP hD hS => ?_)
        obtain ⟨v13, hv13, hF⟩ := oB hF
        refine call_i (wr := [(aMn, .inl (K 6, 55, .inl nN))]) (wn := [(aM, .inr (6, [.ref aMn, .ref aMt, .ref aMk, .int mU, .ref aMs, .int mB, .ref aMl, .int mI, .ref aMx, .int mH, .int mQ, .int mW, .ref aMd, .int mF, .int v13.2.1, .int v13.2.2.1, .int v13.2.2.2, .int mA, .int mT])), (aMn, .inl (K 6, 55, .inl nN))]) (va_runV (As := [.int (3 : Int32), .int v12.1]) (rest := []) ⟨hx, hb, hml, hown, hts⟩ (c_X8_refuses l D K aM aMn aMt aMk aMs aMl aMx aMd mU mB mI mH mQ mW mF mR mD mJ mA mT (3 : Int32) v12.1 v13 hv13 H.size) (cwV 2 hts gX8_joins_X8_refuses rfl rfl rfl (by decide +kernel) ⟨(Nat.le_of_ble_eq_true rfl), (Nat.le_of_ble_eq_true rfl)⟩) (prV hE hK hP hD hS hA [0] rfl rfl 6 0 rfl rfl rfl) rfl rfl hl.1 rfl (lv_room (Nat.le_of_ble_eq_true rfl)) dX8_joins_51 ⟨(Nat.le_of_ble_eq_true rfl), (Nat.le_of_ble_eq_true rfl)⟩) hP hD hS hA [0] [1] [1, 0] rfl rfl rfl (by decide) rfl rfl (fun H locs hP hD hS => ?_)
        obtain ⟨g14, hF⟩ := oG hF
        exact fin_z (u := (v13.1, (v13.2.1, v13.2.2.1, v13.2.2.2, mA, nN))) hF (okN_n g14) hx hb hr hlocks hK hP hD hS (Nat.le_of_ble_eq_true rfl) (Nat.le_of_ble_eq_true rfl) dX8_joins_54
    · have hF := oT c3 hF
      refine lv_aload_n hx hb dX8_joins_28 rfl (lv_at hl 0 rfl) ?_
      refine lv_iconst (v := (2 : Int32)) hx hb dX8_joins_29 (by decide) ?_
      refine lv_bipush (v := (6 : Int32)) hx hb dX8_joins_30 (by decide) ?_
      obtain ⟨v15, hv15, hF⟩ := oB hF
      refine call_i (wr := [(aMn, .inl (K 6, 55, .inl nN))]) (wn := [(aM, .inr (6, [.ref aMn, .ref aMt, .ref aMk, .int mU, .ref aMs, .int mB, .ref aMl, .int mI, .ref aMx, .int mH, .int mQ, .int mW, .ref aMd, .int mF, .int v15.2.1, .int v15.2.2.1, .int v15.2.2.2, .int mA, .int mT])), (aMn, .inl (K 6, 55, .inl nN))]) (va_runV (As := [.int (2 : Int32), .int (6 : Int32)]) (rest := []) ⟨hx, hb, hml, hown, hts⟩ (c_X8_refuses l D K aM aMn aMt aMk aMs aMl aMx aMd mU mB mI mH mQ mW mF mR mD mJ mA mT (2 : Int32) (6 : Int32) v15 hv15 H.size) (cwV 2 hts gX8_joins_X8_refuses rfl rfl rfl (by decide +kernel) ⟨(Nat.le_of_ble_eq_true rfl), (Nat.le_of_ble_eq_true rfl)⟩) (prV hE hK hP hD hS hA [0] rfl rfl 6 0 rfl rfl rfl) rfl rfl hl.1 rfl (lv_room (Nat.le_of_ble_eq_true rfl)) dX8_joins_32 ⟨(Nat.le_of_ble_eq_true rfl), (Nat.le_of_ble_eq_true rfl)⟩) hP hD hS hA [0] [1] [1, 0] rfl rfl rfl (by decide) rfl rfl (fun H locs hP hD hS => ?_)
      obtain ⟨g16, hF⟩ := oG hF
      exact fin_z (u := (v15.1, (v15.2.1, v15.2.2.1, v15.2.2.2, mA, nN))) hF (okN_n g16) hx hb hr hlocks hK hP hD hS (Nat.le_of_ble_eq_true rfl) (Nat.le_of_ble_eq_true rfl) dX8_joins_35
  · have hF := oT c2 hF
    refine lv_aload_n hx hb dX8_joins_10 rfl (lv_at hl 0 rfl) ?_
    refine lv_iconst (v := (1 : Int32)) hx hb dX8_joins_11 (by decide) ?_
    refine lv_iconst (v := (0 : Int32)) hx hb dX8_joins_12 (by decide) ?_
    obtain ⟨v17, hv17, hF⟩ := oB hF
    refine call_i (wr := [(aMn, .inl (K 6, 55, .inl nN))]) (wn := [(aM, .inr (6, [.ref aMn, .ref aMt, .ref aMk, .int mU, .ref aMs, .int mB, .ref aMl, .int mI, .ref aMx, .int mH, .int mQ, .int mW, .ref aMd, .int mF, .int v17.2.1, .int v17.2.2.1, .int v17.2.2.2, .int mA, .int mT])), (aMn, .inl (K 6, 55, .inl nN))]) (va_runV (As := [.int (1 : Int32), .int (0 : Int32)]) (rest := []) ⟨hx, hb, hml, hown, hts⟩ (c_X8_refuses l D K aM aMn aMt aMk aMs aMl aMx aMd mU mB mI mH mQ mW mF mR mD mJ mA mT (1 : Int32) (0 : Int32) v17 hv17 H.size) (cwV 2 hts gX8_joins_X8_refuses rfl rfl rfl (by decide +kernel) ⟨(Nat.le_of_ble_eq_true rfl), (Nat.le_of_ble_eq_true rfl)⟩) (prV hE hK hP hD hS hA [0] rfl rfl 6 0 rfl rfl rfl) rfl rfl hl.1 rfl (lv_room (Nat.le_of_ble_eq_true rfl)) dX8_joins_13 ⟨(Nat.le_of_ble_eq_true rfl), (Nat.le_of_ble_eq_true rfl)⟩) hP hD hS hA [0] [1] [1, 0] rfl rfl rfl (by decide) rfl rfl (fun H locs hP hD hS => ?_)
    obtain ⟨g18, hF⟩ := oG hF
    exact fin_z (u := (v17.1, (v17.2.1, v17.2.2.1, v17.2.2.2, mA, nN))) hF (okN_n g18) hx hb hr hlocks hK hP hD hS (Nat.le_of_ble_eq_true rfl) (Nat.le_of_ble_eq_true rfl) dX8_joins_16
abbrev RM_X8_join : Room := { frames := 3, cells := 0, slots := 0, locals := 67 }
abbrev MC_X8_join : Nat := 0
abbrev MS_X8_join : Nat := 0
abbrev wf_X8_join (K : Nat → ClassId) (aM : Nat) (aMn : Nat) (aMt : Nat) (aMk : Nat) (aMs : Nat) (aMl : Nat) (aMx : Nat) (aMd : Nat) (mB : Int32) (mI : Int32) (mH : Int32) (mQ : Int32) (mW : Int32) (mF : Int32) (v : Int32 × Int32 × Int32 × Int32 × Int32 × Int32 × Int32 × (Nat → Int32) × (Nat → Int32) × (Nat → Int32)) : va_W := [(aM, .inr (6, [.ref aMn, .ref aMt, .ref aMk, .int v.2.1, .ref aMs, .int mB, .ref aMl, .int mI, .ref aMx, .int mH, .int mQ, .int mW, .ref aMd, .int mF, .int v.2.2.1, .int v.2.2.2.1, .int v.2.2.2.2.1, .int v.2.2.2.2.2.1, .int v.2.2.2.2.2.2.1])), (aMn, .inl (K 6, 55, .inl v.2.2.2.2.2.2.2.1)), (aMt, .inl (K 7, 55, .inl v.2.2.2.2.2.2.2.2.1)), (aMk, .inl (K 8, 440, .inl v.2.2.2.2.2.2.2.2.2))]
set_option maxHeartbeats 4000000 in
set_option maxRecDepth 100000 in
theorem c_X8_join (l : Launch) (D : va_G) (K : Nat → ClassId) (aM : Nat) (aMn : Nat) (aMt : Nat) (aMk : Nat) (aMs : Nat) (aMl : Nat) (aMx : Nat) (aMd : Nat) (mU : Int32) (mB : Int32) (mI : Int32) (mH : Int32) (mQ : Int32) (mW : Int32) (mF : Int32) (mR : Int32) (mD : Int32) (mJ : Int32) (mA : Int32) (mT : Int32) (nN : Nat → Int32) (nT : Nat → Int32) (nK : Nat → Int32) (p1 : Int32) (v : Int32 × Int32 × Int32 × Int32 × Int32 × Int32 × Int32 × (Nat → Int32) × (Nat → Int32) × (Nat → Int32)) (hF : f_X8_join mU mR mD mJ mA mT nN nT nK p1 = some v) (sz : Nat) :
    (Met l yX8_join wsX8_join RM_X8_join (PC D (TY K) [(aM, .inr (6, [.ref aMn, .ref aMt, .ref aMk, .int mU, .ref aMs, .int mB, .ref aMl, .int mI, .ref aMx, .int mH, .int mQ, .int mW, .ref aMd, .int mF, .int mR, .int mD, .int mJ, .int mA, .int mT])), (aMn, .inl (K 6, 55, .inl nN)), (aMt, .inl (K 7, 55, .inl nT)), (aMk, .inl (K 8, 440, .inl nK))] [.ref aM, .int p1] sz) (QI D (TY K) (wf_X8_join K aM aMn aMt aMk aMs aMl aMx aMd mB mI mH mQ mW mF) v (va_A [(aM, .inr (6, [.ref aMn, .ref aMt, .ref aMk, .int mU, .ref aMs, .int mB, .ref aMl, .int mI, .ref aMx, .int mH, .int mQ, .int mW, .ref aMd, .int mF, .int mR, .int mD, .int mJ, .int mA, .int mT])), (aMn, .inl (K 6, 55, .inl nN)), (aMt, .inl (K 7, 55, .inl nT)), (aMk, .inl (K 8, 440, .inl nK))] sz)) MC_X8_join MS_X8_join (va_A [(aM, .inr (6, [.ref aMn, .ref aMt, .ref aMk, .int mU, .ref aMs, .int mB, .ref aMl, .int mI, .ref aMx, .int mH, .int mQ, .int mW, .ref aMd, .int mF, .int mR, .int mD, .int mJ, .int mA, .int mT])), (aMn, .inl (K 6, 55, .inl nN)), (aMt, .inl (K 7, 55, .inl nT)), (aMk, .inl (K 8, 440, .inl nK))] sz)) := by
  refine pro (Qf := fun A => QI D (TY K) (wf_X8_join K aM aMn aMt aMk aMs aMl aMx aMd mB mI mH mQ mW mF) v A) (cc := cX8_join) (maxL := 2) (ret := (some .int)) (by decide +kernel) rfl (Nat.le_of_ble_eq_true rfl) ?_
  intro p e s m args below meth c hx hb hr hts hown hlocks hml hini hK A hA hE hP hD hS ls hl
  have hown : s.vm.findClass RX8 = some m.cls := hown
  have hl : lv_has ls 2 [(0, .ref aM), (1, .int p1)] := hl
  rw [f_X8_join] at hF
  refine lv_aload_n hx hb dX8_join_0 rfl (lv_at hl 0 rfl) ?_
  obtain ⟨v1, hv1, hF⟩ := oB hF
  refine call_v (wr := [(aMk, .inl (K 8, 440, .inl nK))]) (wn := [(aM, .inr (6, [.ref aMn, .ref aMt, .ref aMk, .int mU, .ref aMs, .int mB, .ref aMl, .int mI, .ref aMx, .int mH, .int mQ, .int mW, .ref aMd, .int mF, .int mR, .int mD, .int mJ, .int mA, .int v1.1])), (aMn, .inl (K 6, 55, .inl nN)), (aMt, .inl (K 7, 55, .inl v1.2)), (aMk, .inl (K 8, 440, .inl nK))]) (va_runV (As := []) (rest := []) ⟨hx, hb, hml, hown, hts⟩ (c_X8_tries l D K aM aMn aMt aMk aMs aMl aMx aMd mU mB mI mH mQ mW mF mR mD mJ mA mT nN nT v1 hv1 s.heap.size) (cwV 0 hts gX8_join_X8_tries rfl rfl rfl (by decide +kernel) ⟨(Nat.le_of_ble_eq_true rfl), (Nat.le_of_ble_eq_true rfl)⟩) (prV hE hK hP hD hS hA [0, 1, 2] rfl rfl 6 0 rfl rfl rfl) rfl rfl hl.1 rfl (lv_room (Nat.le_of_ble_eq_true rfl)) dX8_join_1 ⟨(Nat.le_of_ble_eq_true rfl), (Nat.le_of_ble_eq_true rfl)⟩) hP hD hS hA [0, 1, 2] [3] [1, 2, 3, 0] rfl rfl rfl (by decide) rfl rfl (fun H locs hP hD hS => ?_)
  refine lv_aload_n hx hb dX8_join_4 rfl (lv_at hl 0 rfl) ?_
  refine lv_aload_n hx hb dX8_join_5 rfl (lv_at hl 0 rfl) ?_
  refine lv_iload_n hx hb dX8_join_6 rfl (lv_at hl 1 rfl) ?_
  obtain ⟨v2, hv2, hF⟩ := oB hF
  refine call_i (wr := [(aMt, .inl (K 7, 55, .inl v1.2)), (aMk, .inl (K 8, 440, .inl nK))]) (wn := [(aM, .inr (6, [.ref aMn, .ref aMt, .ref aMk, .int mU, .ref aMs, .int mB, .ref aMl, .int mI, .ref aMx, .int mH, .int mQ, .int mW, .ref aMd, .int mF, .int v2.2.1, .int v2.2.2.1, .int v2.2.2.2.1, .int v2.2.2.2.2.1, .int v1.1])), (aMn, .inl (K 6, 55, .inl v2.2.2.2.2.2)), (aMt, .inl (K 7, 55, .inl v1.2)), (aMk, .inl (K 8, 440, .inl nK))]) (va_runV (As := [.int p1]) (rest := [.ref aM]) ⟨hx, hb, hml, hown, hts⟩ (c_X8_joins l D K aM aMn aMt aMk aMs aMl aMx aMd mU mB mI mH mQ mW mF mR mD mJ mA v1.1 nN p1 v2 hv2 H.size) (cwV 1 hts gX8_join_X8_joins rfl rfl rfl (by decide +kernel) ⟨(Nat.le_of_ble_eq_true rfl), (Nat.le_of_ble_eq_true rfl)⟩) (prV hE hK hP hD hS hA [0, 1] rfl rfl 6 0 rfl rfl rfl) rfl rfl hl.1 rfl (lv_room (Nat.le_of_ble_eq_true rfl)) dX8_join_7 ⟨(Nat.le_of_ble_eq_true rfl), (Nat.le_of_ble_eq_true rfl)⟩) hP hD hS hA [0, 1] [2, 3] [2, 3, 0, 1] rfl rfl rfl (by decide) rfl rfl (fun H locs hP hD hS => ?_)
  obtain ⟨v3, hv3, hF⟩ := oB hF
  refine call_i (wr := [(aMn, .inl (K 6, 55, .inl v2.2.2.2.2.2))]) (wn := [(aM, .inr (6, [.ref aMn, .ref aMt, .ref aMk, .int v3.2.1, .ref aMs, .int mB, .ref aMl, .int mI, .ref aMx, .int mH, .int mQ, .int mW, .ref aMd, .int mF, .int v2.2.1, .int v2.2.2.1, .int v2.2.2.2.1, .int v2.2.2.2.2.1, .int v3.2.2.1])), (aMn, .inl (K 6, 55, .inl v2.2.2.2.2.2)), (aMt, .inl (K 7, 55, .inl v1.2)), (aMk, .inl (K 8, 440, .inl v3.2.2.2))]) (va_runV (As := [.int v2.1]) (rest := []) ⟨hx, hb, hml, hown, hts⟩ (c_X8_ends l D K aM aMn aMt aMk aMs aMl aMx aMd mU mB mI mH mQ mW mF v2.2.1 v2.2.2.1 v2.2.2.2.1 v2.2.2.2.2.1 v1.1 v1.2 nK v2.1 v3 hv3 H.size) (cwV 1 hts gX8_join_X8_ends rfl rfl rfl (by decide +kernel) ⟨(Nat.le_of_ble_eq_true rfl), (Nat.le_of_ble_eq_true rfl)⟩) (prV hE hK hP hD hS hA [0, 2, 3] rfl rfl 6 0 rfl rfl rfl) rfl rfl hl.1 rfl (lv_room (Nat.le_of_ble_eq_true rfl)) dX8_join_10 ⟨(Nat.le_of_ble_eq_true rfl), (Nat.le_of_ble_eq_true rfl)⟩) hP hD hS hA [0, 2, 3] [1] [1, 0, 2, 3] rfl rfl rfl (by decide) rfl rfl (fun H locs hP hD hS => ?_)
  exact fin_i (u := (v3.1, (v3.2.1, v2.2.1, v2.2.2.1, v2.2.2.2.1, v2.2.2.2.2.1, v3.2.2.1, v2.2.2.2.2.2, v1.2, v3.2.2.2))) hF hx hb hr hlocks hK hP hD hS (Nat.le_of_ble_eq_true rfl) (Nat.le_of_ble_eq_true rfl) dX8_join_13
abbrev RM_X8_leaves : Room := { frames := 3, cells := 0, slots := 0, locals := 64 }
abbrev MC_X8_leaves : Nat := 0
abbrev MS_X8_leaves : Nat := 0
abbrev wf_X8_leaves (K : Nat → ClassId) (aM : Nat) (aMn : Nat) (aMt : Nat) (aMk : Nat) (aMs : Nat) (aMl : Nat) (aMx : Nat) (aMd : Nat) (mU : Int32) (mB : Int32) (mI : Int32) (mH : Int32) (mQ : Int32) (mW : Int32) (mF : Int32) (mT : Int32) (v : Int32 × Int32 × Int32 × Int32 × Int32 × (Nat → Int32)) : va_W := [(aM, .inr (6, [.ref aMn, .ref aMt, .ref aMk, .int mU, .ref aMs, .int mB, .ref aMl, .int mI, .ref aMx, .int mH, .int mQ, .int mW, .ref aMd, .int mF, .int v.2.1, .int v.2.2.1, .int v.2.2.2.1, .int v.2.2.2.2.1, .int mT])), (aMn, .inl (K 6, 55, .inl v.2.2.2.2.2))]
set_option maxHeartbeats 4000000 in
set_option maxRecDepth 100000 in
theorem c_X8_leaves (l : Launch) (D : va_G) (K : Nat → ClassId) (aM : Nat) (aMn : Nat) (aMt : Nat) (aMk : Nat) (aMs : Nat) (aMl : Nat) (aMx : Nat) (aMd : Nat) (mU : Int32) (mB : Int32) (mI : Int32) (mH : Int32) (mQ : Int32) (mW : Int32) (mF : Int32) (mR : Int32) (mD : Int32) (mJ : Int32) (mA : Int32) (mT : Int32) (nN : Nat → Int32) (p1 : Int32) (v : Int32 × Int32 × Int32 × Int32 × Int32 × (Nat → Int32)) (hF : f_X8_leaves mR mD mJ mA nN p1 = some v) (sz : Nat) :
    (Met l yX8_leaves wsX8_leaves RM_X8_leaves (PC D (TY K) [(aM, .inr (6, [.ref aMn, .ref aMt, .ref aMk, .int mU, .ref aMs, .int mB, .ref aMl, .int mI, .ref aMx, .int mH, .int mQ, .int mW, .ref aMd, .int mF, .int mR, .int mD, .int mJ, .int mA, .int mT])), (aMn, .inl (K 6, 55, .inl nN))] [.ref aM, .int p1] sz) (QI D (TY K) (wf_X8_leaves K aM aMn aMt aMk aMs aMl aMx aMd mU mB mI mH mQ mW mF mT) v (va_A [(aM, .inr (6, [.ref aMn, .ref aMt, .ref aMk, .int mU, .ref aMs, .int mB, .ref aMl, .int mI, .ref aMx, .int mH, .int mQ, .int mW, .ref aMd, .int mF, .int mR, .int mD, .int mJ, .int mA, .int mT])), (aMn, .inl (K 6, 55, .inl nN))] sz)) MC_X8_leaves MS_X8_leaves (va_A [(aM, .inr (6, [.ref aMn, .ref aMt, .ref aMk, .int mU, .ref aMs, .int mB, .ref aMl, .int mI, .ref aMx, .int mH, .int mQ, .int mW, .ref aMd, .int mF, .int mR, .int mD, .int mJ, .int mA, .int mT])), (aMn, .inl (K 6, 55, .inl nN))] sz)) := by
  refine pro (Qf := fun A => QI D (TY K) (wf_X8_leaves K aM aMn aMt aMk aMs aMl aMx aMd mU mB mI mH mQ mW mF mT) v A) (cc := cX8_leaves) (maxL := 4) (ret := (some .boolean)) (by decide +kernel) rfl (Nat.le_of_ble_eq_true rfl) ?_
  intro p e s m args below meth c hx hb hr hts hown hlocks hml hini hK A hA hE hP hD hS ls hl
  have hown : s.vm.findClass RX8 = some m.cls := hown
  have hl : lv_has ls 4 [(0, .ref aM), (1, .int p1)] := hl
  have loop_67 : ∀ (y67_2 : Int32) (mR_67 : Int32) (mD_67 : Int32) (mJ_67 : Int32) (mA_67 : Int32) (n : Nat) (y67_3 : Int32) (nN_67 : Nat → Int32), f_X8_leaves_L67 y67_2 mR_67 mD_67 mJ_67 mA_67 n y67_3 nN_67 = some v → ∀ (H : Heap) (locs : List Loc), va_P D vwC7 [(aM, .inr (6, [.ref aMn, .ref aMt, .ref aMk, .int mU, .ref aMs, .int mB, .ref aMl, .int mI, .ref aMx, .int mH, .int mQ, .int mW, .ref aMd, .int mF, .int mR_67, .int mD_67, .int mJ_67, .int mA_67, .int mT])), (aMn, .inl (K 6, 55, .inl nN_67))] H → va_D A [(aM, .inr (6, [.ref aMn, .ref aMt, .ref aMk, .int mU, .ref aMs, .int mB, .ref aMl, .int mI, .ref aMx, .int mH, .int mQ, .int mW, .ref aMd, .int mF, .int mR_67, .int mD_67, .int mJ_67, .int mA_67, .int mT])), (aMn, .inl (K 6, 55, .inl nN_67))] → va_S A s.heap H locs → ∀ ls : Array Slot, lv_has ls 4 [(0, .ref aM), (2, .int y67_2), (3, .int y67_3)] → W p l e RM_X8_leaves s m args below meth c H locs 0 0 (MQ below (QI D (TY K) (wf_X8_leaves K aM aMn aMt aMk aMs aMl aMx aMd mU mB mI mH mQ mW mF mT) v A) args s MC_X8_leaves MS_X8_leaves A) (F0 m 67 ls []) := by
    intro y67_2 mR_67 mD_67 mJ_67 mA_67 n
    induction n with
    | zero =>
      intro y67_3 nN_67 hF
      exact nomatch hF
    | succ n ih =>
      intro y67_3 nN_67 hF H locs hP hD hS ls hl
      rw [f_X8_leaves_L67.eq_2] at hF
      refine lv_iload_n hx hb dX8_leaves_67 rfl (lv_at hl 2 rfl) ?_
      refine lv_bipush (v := (13 : Int32)) hx hb dX8_leaves_68 (by decide) ?_
      refine lv_bipush (v := (7 : Int32)) hx hb dX8_leaves_70 (by decide) ?_
      refine lv_aload_n hx hb dX8_leaves_72 rfl (lv_at hl 0 rfl) ?_
      refine va_get (D := D) (ci := 6) (v := .ref aMn) (C := RX8) (T := TX8) (N := 19) hx hb hts (fun _ h => List.mem_cons_of_mem _ (List.mem_append_left _ (List.mem_append_right _ h))) hown hK hP 0 rfl rfl 0 (by decide) (hts (.fieldLink RX8 9 "BarometerClubModel" "now" "[I") (List.mem_of_getElem? (i := 1) rfl)) (fun _ h9 => h9) rfl dX8_leaves_73 ?_
      refine lv_iconst (v := (0 : Int32)) hx hb dX8_leaves_76 (by decide) ?_
      refine va_iald hx hb hK hP 1 6 rfl rfl (inB_in (by decide : inB (0 : Int32) 55 = true)) dX8_leaves_77 ?_
      refine lv_imul hx hb dX8_leaves_78 ?_
      refine lv_iadd hx hb dX8_leaves_79 ?_
      refine lv_icmp_ge (tgt := 104) hx hb dX8_leaves_80 (by decide) (fun c6 => ?_) (fun c6 => ?_)
      · have hF := oT c6 hF
        refine lv_aload_n hx hb dX8_leaves_104 rfl (lv_at hl 0 rfl) ?_
        refine lv_iload_n hx hb dX8_leaves_105 rfl (lv_at hl 1 rfl) ?_
        obtain ⟨v7, hv7, hF⟩ := oB hF
        refine call_i (wr := [(aMn, .inl (K 6, 55, .inl nN_67))]) (wn := [(aM, .inr (6, [.ref aMn, .ref aMt, .ref aMk, .int mU, .ref aMs, .int mB, .ref aMl, .int mI, .ref aMx, .int mH, .int mQ, .int mW, .ref aMd, .int mF, .int mR_67, .int mD_67, .int mJ_67, .int v7.2, .int mT])), (aMn, .inl (K 6, 55, .inl nN_67))]) (va_runV (As := [.int y67_2]) (rest := []) ⟨hx, hb, hml, hown, hts⟩ (c_X8_does l D K aM aMn aMt aMk aMs aMl aMx aMd mU mB mI mH mQ mW mF mR_67 mD_67 mJ_67 mA_67 mT y67_2 v7 hv7 H.size) (cwV 1 hts gX8_leaves_X8_does rfl rfl rfl (by decide +kernel) ⟨(Nat.le_of_ble_eq_true rfl), (Nat.le_of_ble_eq_true rfl)⟩) (prV hE hK hP hD hS hA [0] rfl rfl 6 0 rfl rfl rfl) rfl rfl hl.1 rfl (lv_room (Nat.le_of_ble_eq_true rfl)) dX8_leaves_106 ⟨(Nat.le_of_ble_eq_true rfl), (Nat.le_of_ble_eq_true rfl)⟩) hP hD hS hA [0] [1] [1, 0] rfl rfl rfl (by decide) rfl rfl (fun H locs hP hD hS => ?_)
        obtain ⟨g8, hF⟩ := oG hF
        exact fin_z (u := (v7.1, (mR_67, mD_67, mJ_67, v7.2, nN_67))) hF (okN_n g8) hx hb hr hlocks hK hP hD hS (Nat.le_of_ble_eq_true rfl) (Nat.le_of_ble_eq_true rfl) dX8_leaves_109
      · have hF := oF c6 hF
        refine lv_aload_n hx hb dX8_leaves_83 rfl (lv_at hl 0 rfl) ?_
        refine va_get (D := D) (ci := 6) (v := .ref aMn) (C := RX8) (T := TX8) (N := 19) hx hb hts (fun _ h => List.mem_cons_of_mem _ (List.mem_append_left _ (List.mem_append_right _ h))) hown hK hP 0 rfl rfl 0 (by decide) (hts (.fieldLink RX8 9 "BarometerClubModel" "now" "[I") (List.mem_of_getElem? (i := 1) rfl)) (fun _ h9 => h9) rfl dX8_leaves_84 ?_
        refine lv_iload_n hx hb dX8_leaves_87 rfl (lv_at hl 2 rfl) ?_
        refine lv_aload_n hx hb dX8_leaves_88 rfl (lv_at hl 0 rfl) ?_
        refine va_get (D := D) (ci := 6) (v := .ref aMn) (C := RX8) (T := TX8) (N := 19) hx hb hts (fun _ h => List.mem_cons_of_mem _ (List.mem_append_left _ (List.mem_append_right _ h))) hown hK hP 0 rfl rfl 0 (by decide) (hts (.fieldLink RX8 9 "BarometerClubModel" "now" "[I") (List.mem_of_getElem? (i := 1) rfl)) (fun _ h9 => h9) rfl dX8_leaves_89 ?_
        refine lv_iload_n hx hb dX8_leaves_92 rfl (lv_at hl 2 rfl) ?_
        refine lv_bipush (v := (7 : Int32)) hx hb dX8_leaves_93 (by decide) ?_
        refine lv_iadd hx hb dX8_leaves_95 ?_
        obtain ⟨g9, hF⟩ := oG hF
        refine va_iald hx hb hK hP 1 6 rfl rfl (inB_in g9) dX8_leaves_96 ?_
        obtain ⟨g10, hF⟩ := oG hF
        refine va_iast hx hb hK hP hD hS 1 6 rfl rfl (inB_in g10) dX8_leaves_97 (fun H locs hP hD hS => ?_)
        have hP : va_P D vwC7 [(aM, .inr (6, [.ref aMn, .ref aMt, .ref aMk, .int mU, .ref aMs, .int mB, .ref aMl, .int mI, .ref aMx, .int mH, .int mQ, .int mW, .ref aMd, .int mF, .int mR_67, .int mD_67, .int mJ_67, .int mA_67, .int mT])), (aMn, .inl (K 6, 55, .inl (upd nN_67 y67_3.toNatClampNeg (nN_67 (y67_3 + (7 : Int32)).toNatClampNeg))))] H := hP
        have hD : va_D A [(aM, .inr (6, [.ref aMn, .ref aMt, .ref aMk, .int mU, .ref aMs, .int mB, .ref aMl, .int mI, .ref aMx, .int mH, .int mQ, .int mW, .ref aMd, .int mF, .int mR_67, .int mD_67, .int mJ_67, .int mA_67, .int mT])), (aMn, .inl (K 6, 55, .inl (upd nN_67 y67_3.toNatClampNeg (nN_67 (y67_3 + (7 : Int32)).toNatClampNeg))))] := hD
        refine lv_iinc (v := y67_3 + (1 : Int32)) (lv' := [(3, .int (y67_3 + (1 : Int32))), (0, .ref aM), (2, .int y67_2)]) hx hb dX8_leaves_98 hl (k := 2) rfl (by first | rfl | decide) (by decide) rfl (fun ls hl => ?_)
        refine lv_goto (tgt := 67) hx hb dX8_leaves_101 (by decide) ?_
        exact ih (y67_3 + (1 : Int32)) (upd nN_67 y67_3.toNatClampNeg (nN_67 (y67_3 + (7 : Int32)).toNatClampNeg)) hF _ _ hP hD hS _ (lv_sub hl [1, 2, 0] rfl)
  rw [f_X8_leaves] at hF
  refine lv_aload_n hx hb dX8_leaves_0 rfl (lv_at hl 0 rfl) ?_
  refine lv_iload_n hx hb dX8_leaves_1 rfl (lv_at hl 1 rfl) ?_
  obtain ⟨v1, hv1, hF⟩ := oB hF
  refine call_i (wr := []) (wn := [(aM, .inr (6, [.ref aMn, .ref aMt, .ref aMk, .int mU, .ref aMs, .int mB, .ref aMl, .int mI, .ref aMx, .int mH, .int mQ, .int mW, .ref aMd, .int mF, .int v1.2.1, .int v1.2.2.1, .int v1.2.2.2, .int mA, .int mT])), (aMn, .inl (K 6, 55, .inl nN))]) (va_runV (As := [.int p1]) (rest := []) ⟨hx, hb, hml, hown, hts⟩ (c_X8_isThere l D K aM aMn aMt aMk aMs aMl aMx aMd mU mB mI mH mQ mW mF mR mD mJ mA mT nN p1 v1 hv1 s.heap.size) (cwV 1 hts gX8_leaves_X8_isThere rfl rfl rfl (by decide +kernel) ⟨(Nat.le_of_ble_eq_true rfl), (Nat.le_of_ble_eq_true rfl)⟩) (prV hE hK hP hD hS hA [0, 1] rfl rfl 6 0 rfl rfl rfl) rfl rfl hl.1 rfl (lv_room (Nat.le_of_ble_eq_true rfl)) dX8_leaves_2 ⟨(Nat.le_of_ble_eq_true rfl), (Nat.le_of_ble_eq_true rfl)⟩) hP hD hS hA [0, 1] [] [0, 1] rfl rfl rfl (by decide) rfl rfl (fun H locs hP hD hS => ?_)
  refine lv_if_ne (tgt := 10) hx hb dX8_leaves_5 (by decide) (fun c2 => ?_) (fun c2 => ?_)
  · have hF := oF c2 hF
    refine lv_aload_n hx hb dX8_leaves_10 rfl (lv_at hl 0 rfl) ?_
    refine lv_iload_n hx hb dX8_leaves_11 rfl (lv_at hl 1 rfl) ?_
    obtain ⟨v3, hv3, hF⟩ := oB hF
    refine call_i (wr := []) (wn := [(aM, .inr (6, [.ref aMn, .ref aMt, .ref aMk, .int mU, .ref aMs, .int mB, .ref aMl, .int mI, .ref aMx, .int mH, .int mQ, .int mW, .ref aMd, .int mF, .int v1.2.1, .int v1.2.2.1, .int v1.2.2.2, .int mA, .int mT])), (aMn, .inl (K 6, 55, .inl nN))]) (va_runV (As := [.int p1]) (rest := []) ⟨hx, hb, hml, hown, hts⟩ (c_X8_hasWagered l D K aM aMn aMt aMk aMs aMl aMx aMd mU mB mI mH mQ mW mF v1.2.1 v1.2.2.1 v1.2.2.2 mA mT nN p1 v3 hv3 H.size) (cwV 1 hts gX8_leaves_X8_hasWagered rfl rfl rfl (by decide +kernel) ⟨(Nat.le_of_ble_eq_true rfl), (Nat.le_of_ble_eq_true rfl)⟩) (prV hE hK hP hD hS hA [0, 1] rfl rfl 6 0 rfl rfl rfl) rfl rfl hl.1 rfl (lv_room (Nat.le_of_ble_eq_true rfl)) dX8_leaves_12 ⟨(Nat.le_of_ble_eq_true rfl), (Nat.le_of_ble_eq_true rfl)⟩) hP hD hS hA [0, 1] [] [0, 1] rfl rfl rfl (by decide) rfl rfl (fun H locs hP hD hS => ?_)
    refine lv_if_eq (tgt := 31) hx hb dX8_leaves_15 (by decide) (fun c4 => ?_) (fun c4 => ?_)
    · have hF := oT c4 hF
      refine lv_aload_n hx hb dX8_leaves_31 rfl (lv_at hl 0 rfl) ?_
      refine lv_iload_n hx hb dX8_leaves_32 rfl (lv_at hl 1 rfl) ?_
      refine lv_iconst (v := (0 : Int32)) hx hb dX8_leaves_33 (by decide) ?_
      obtain ⟨v5, hv5, hF⟩ := oB hF
      refine call_i (wr := []) (wn := [(aM, .inr (6, [.ref aMn, .ref aMt, .ref aMk, .int mU, .ref aMs, .int mB, .ref aMl, .int mI, .ref aMx, .int mH, .int mQ, .int mW, .ref aMd, .int mF, .int v1.2.1, .int v1.2.2.1, .int v1.2.2.2, .int mA, .int mT])), (aMn, .inl (K 6, 55, .inl nN))]) (va_runV (As := [.int p1, .int (0 : Int32)]) (rest := []) ⟨hx, hb, hml, hown, hts⟩ (c_X8_of l D K aM aMn aMt aMk aMs aMl aMx aMd mU mB mI mH mQ mW mF v1.2.1 v1.2.2.1 v1.2.2.2 mA mT nN p1 (0 : Int32) v5 hv5 H.size) (cwV 2 hts gX8_leaves_X8_of rfl rfl rfl (by decide +kernel) ⟨(Nat.le_of_ble_eq_true rfl), (Nat.le_of_ble_eq_true rfl)⟩) (prV hE hK hP hD hS hA [0, 1] rfl rfl 6 0 rfl rfl rfl) rfl rfl hl.1 rfl (lv_room (Nat.le_of_ble_eq_true rfl)) dX8_leaves_34 ⟨(Nat.le_of_ble_eq_true rfl), (Nat.le_of_ble_eq_true rfl)⟩) hP hD hS hA [0, 1] [] [0, 1] rfl rfl rfl (by decide) rfl rfl (fun H locs hP hD hS => ?_)
      refine lv_istore_n (lv' := [(2, .int v5.1), (0, .ref aM), (1, .int p1)]) hx hb dX8_leaves_37 rfl hl (by decide) rfl (fun ls hl => ?_)
      refine lv_aload_n hx hb dX8_leaves_38 rfl (lv_at hl 1 rfl) ?_
      refine va_get (D := D) (ci := 6) (v := .ref aMn) (C := RX8) (T := TX8) (N := 19) hx hb hts (fun _ h => List.mem_cons_of_mem _ (List.mem_append_left _ (List.mem_append_right _ h))) hown hK hP 0 rfl rfl 0 (by decide) (hts (.fieldLink RX8 9 "BarometerClubModel" "now" "[I") (List.mem_of_getElem? (i := 1) rfl)) (fun _ h9 => h9) rfl dX8_leaves_39 ?_
      refine lv_bipush (v := (12 : Int32)) hx hb dX8_leaves_42 (by decide) ?_
      refine lv_dup2_11 hx hb dX8_leaves_44 rfl rfl ?_
      refine va_iald hx hb hK hP 1 6 rfl rfl (inB_in (by decide : inB (12 : Int32) 55 = true)) dX8_leaves_45 ?_
      refine lv_iload_n hx hb dX8_leaves_46 rfl (lv_at hl 0 rfl) ?_
      refine lv_iadd hx hb dX8_leaves_47 ?_
      refine va_iast hx hb hK hP hD hS 1 6 rfl rfl (inB_in (by decide : inB (12 : Int32) 55 = true)) dX8_leaves_48 (fun H locs hP hD hS => ?_)
      have hP : va_P D vwC7 [(aM, .inr (6, [.ref aMn, .ref aMt, .ref aMk, .int mU, .ref aMs, .int mB, .ref aMl, .int mI, .ref aMx, .int mH, .int mQ, .int mW, .ref aMd, .int mF, .int v1.2.1, .int v1.2.2.1, .int v1.2.2.2, .int mA, .int mT])), (aMn, .inl (K 6, 55, .inl (upd nN (12 : Int32).toNatClampNeg ((nN (12 : Int32).toNatClampNeg) + v5.1))))] H := hP
      have hD : va_D A [(aM, .inr (6, [.ref aMn, .ref aMt, .ref aMk, .int mU, .ref aMs, .int mB, .ref aMl, .int mI, .ref aMx, .int mH, .int mQ, .int mW, .ref aMd, .int mF, .int v1.2.1, .int v1.2.2.1, .int v1.2.2.2, .int mA, .int mT])), (aMn, .inl (K 6, 55, .inl (upd nN (12 : Int32).toNatClampNeg ((nN (12 : Int32).toNatClampNeg) + v5.1))))] := hD
      refine lv_aload_n hx hb dX8_leaves_49 rfl (lv_at hl 1 rfl) ?_
      refine va_get (D := D) (ci := 6) (v := .ref aMn) (C := RX8) (T := TX8) (N := 19) hx hb hts (fun _ h => List.mem_cons_of_mem _ (List.mem_append_left _ (List.mem_append_right _ h))) hown hK hP 0 rfl rfl 0 (by decide) (hts (.fieldLink RX8 9 "BarometerClubModel" "now" "[I") (List.mem_of_getElem? (i := 1) rfl)) (fun _ h9 => h9) rfl dX8_leaves_50 ?_
      refine lv_iconst (v := (0 : Int32)) hx hb dX8_leaves_53 (by decide) ?_
      refine lv_dup2_11 hx hb dX8_leaves_54 rfl rfl ?_
      refine va_iald hx hb hK hP 1 6 rfl rfl (inB_in (by decide : inB (0 : Int32) 55 = true)) dX8_leaves_55 ?_
      refine lv_iconst (v := (1 : Int32)) hx hb dX8_leaves_56 (by decide) ?_
      refine lv_isub hx hb dX8_leaves_57 ?_
      refine va_iast hx hb hK hP hD hS 1 6 rfl rfl (inB_in (by decide : inB (0 : Int32) 55 = true)) dX8_leaves_58 (fun H locs hP hD hS => ?_)
      have hP : va_P D vwC7 [(aM, .inr (6, [.ref aMn, .ref aMt, .ref aMk, .int mU, .ref aMs, .int mB, .ref aMl, .int mI, .ref aMx, .int mH, .int mQ, .int mW, .ref aMd, .int mF, .int v1.2.1, .int v1.2.2.1, .int v1.2.2.2, .int mA, .int mT])), (aMn, .inl (K 6, 55, .inl (upd (upd nN (12 : Int32).toNatClampNeg ((nN (12 : Int32).toNatClampNeg) + v5.1)) (0 : Int32).toNatClampNeg (((upd nN (12 : Int32).toNatClampNeg ((nN (12 : Int32).toNatClampNeg) + v5.1)) (0 : Int32).toNatClampNeg) - (1 : Int32)))))] H := hP
      have hD : va_D A [(aM, .inr (6, [.ref aMn, .ref aMt, .ref aMk, .int mU, .ref aMs, .int mB, .ref aMl, .int mI, .ref aMx, .int mH, .int mQ, .int mW, .ref aMd, .int mF, .int v1.2.1, .int v1.2.2.1, .int v1.2.2.2, .int mA, .int mT])), (aMn, .inl (K 6, 55, .inl (upd (upd nN (12 : Int32).toNatClampNeg ((nN (12 : Int32).toNatClampNeg) + v5.1)) (0 : Int32).toNatClampNeg (((upd nN (12 : Int32).toNatClampNeg ((nN (12 : Int32).toNatClampNeg) + v5.1)) (0 : Int32).toNatClampNeg) - (1 : Int32)))))] := hD
      refine lv_bipush (v := (13 : Int32)) hx hb dX8_leaves_59 (by decide) ?_
      refine lv_bipush (v := (7 : Int32)) hx hb dX8_leaves_61 (by decide) ?_
      refine lv_iload_n hx hb dX8_leaves_63 rfl (lv_at hl 2 rfl) ?_
      refine lv_imul hx hb dX8_leaves_64 ?_
      refine lv_iadd hx hb dX8_leaves_65 ?_
      refine lv_istore_n (lv' := [(3, .int ((13 : Int32) + ((7 : Int32) * p1))), (2, .int v5.1), (0, .ref aM), (1, .int p1)]) hx hb dX8_leaves_66 rfl hl (by decide) rfl (fun ls hl => ?_)
      exact loop_67 v5.1 v1.2.1 v1.2.2.1 v1.2.2.2 mA FU ((13 : Int32) + ((7 : Int32) * p1)) (upd (upd nN (12 : Int32).toNatClampNeg ((nN (12 : Int32).toNatClampNeg) + v5.1)) (0 : Int32).toNatClampNeg (((upd nN (12 : Int32).toNatClampNeg ((nN (12 : Int32).toNatClampNeg) + v5.1)) (0 : Int32).toNatClampNeg) - (1 : Int32))) hF _ _ hP hD hS _ (lv_sub hl [2, 1, 0] rfl)
    · have hF := oF c4 hF
      refine lv_aload_n hx hb dX8_leaves_18 rfl (lv_at hl 0 rfl) ?_
      refine lv_bipush (v := (7 : Int32)) hx hb dX8_leaves_19 (by decide) ?_
      refine lv_aload_n hx hb dX8_leaves_21 rfl (lv_at hl 0 rfl) ?_
      refine lv_iload_n hx hb dX8_leaves_22 rfl (lv_at hl 1 rfl) ?_
      refine lv_iconst (v := (2 : Int32)) hx hb dX8_leaves_23 (by decide) ?_
      obtain ⟨v11, hv11, hF⟩ := oB hF
      refine call_i (wr := []) (wn := [(aM, .inr (6, [.ref aMn, .ref aMt, .ref aMk, .int mU, .ref aMs, .int mB, .ref aMl, .int mI, .ref aMx, .int mH, .int mQ, .int mW, .ref aMd, .int mF, .int v1.2.1, .int v1.2.2.1, .int v1.2.2.2, .int mA, .int mT])), (aMn, .inl (K 6, 55, .inl nN))]) (va_runV (As := [.int p1, .int (2 : Int32)]) (rest := [.int (7 : Int32), .ref aM]) ⟨hx, hb, hml, hown, hts⟩ (c_X8_of l D K aM aMn aMt aMk aMs aMl aMx aMd mU mB mI mH mQ mW mF v1.2.1 v1.2.2.1 v1.2.2.2 mA mT nN p1 (2 : Int32) v11 hv11 H.size) (cwV 2 hts gX8_leaves_X8_of rfl rfl rfl (by decide +kernel) ⟨(Nat.le_of_ble_eq_true rfl), (Nat.le_of_ble_eq_true rfl)⟩) (prV hE hK hP hD hS hA [0, 1] rfl rfl 6 0 rfl rfl rfl) rfl rfl hl.1 rfl (lv_room (Nat.le_of_ble_eq_true rfl)) dX8_leaves_24 ⟨(Nat.le_of_ble_eq_true rfl), (Nat.le_of_ble_eq_true rfl)⟩) hP hD hS hA [0, 1] [] [0, 1] rfl rfl rfl (by decide) rfl rfl (fun H locs hP hD hS => ?_)
      obtain ⟨v12, hv12, hF⟩ := oB hF
      refine call_i (wr := [(aMn, .inl (K 6, 55, .inl nN))]) (wn := [(aM, .inr (6, [.ref aMn, .ref aMt, .ref aMk, .int mU, .ref aMs, .int mB, .ref aMl, .int mI, .ref aMx, .int mH, .int mQ, .int mW, .ref aMd, .int mF, .int v12.2.1, .int v12.2.2.1, .int v12.2.2.2, .int mA, .int mT])), (aMn, .inl (K 6, 55, .inl nN))]) (va_runV (As := [.int (7 : Int32), .int v11.1]) (rest := []) ⟨hx, hb, hml, hown, hts⟩ (c_X8_refuses l D K aM aMn aMt aMk aMs aMl aMx aMd mU mB mI mH mQ mW mF v1.2.1 v1.2.2.1 v1.2.2.2 mA mT (7 : Int32) v11.1 v12 hv12 H.size) (cwV 2 hts gX8_leaves_X8_refuses rfl rfl rfl (by decide +kernel) ⟨(Nat.le_of_ble_eq_true rfl), (Nat.le_of_ble_eq_true rfl)⟩) (prV hE hK hP hD hS hA [0] rfl rfl 6 0 rfl rfl rfl) rfl rfl hl.1 rfl (lv_room (Nat.le_of_ble_eq_true rfl)) dX8_leaves_27 ⟨(Nat.le_of_ble_eq_true rfl), (Nat.le_of_ble_eq_true rfl)⟩) hP hD hS hA [0] [1] [1, 0] rfl rfl rfl (by decide) rfl rfl (fun H locs hP hD hS => ?_)
      obtain ⟨g13, hF⟩ := oG hF
      exact fin_z (u := (v12.1, (v12.2.1, v12.2.2.1, v12.2.2.2, mA, nN))) hF (okN_n g13) hx hb hr hlocks hK hP hD hS (Nat.le_of_ble_eq_true rfl) (Nat.le_of_ble_eq_true rfl) dX8_leaves_30
  · have hF := oT c2 hF
    refine lv_iconst (v := (0 : Int32)) hx hb dX8_leaves_8 (by decide) ?_
    exact fin_z (u := ((0 : Int32), (v1.2.1, v1.2.2.1, v1.2.2.2, mA, nN))) hF (okN_n (ty := .boolean) (x := (0 : Int32)) (by decide)) hx hb hr hlocks hK hP hD hS (Nat.le_of_ble_eq_true rfl) (Nat.le_of_ble_eq_true rfl) dX8_leaves_9
abbrev RM_X8_leave : Room := { frames := 4, cells := 0, slots := 0, locals := 87 }
abbrev MC_X8_leave : Nat := 0
abbrev MS_X8_leave : Nat := 0
abbrev wf_X8_leave (K : Nat → ClassId) (aM : Nat) (aMn : Nat) (aMt : Nat) (aMk : Nat) (aMs : Nat) (aMl : Nat) (aMx : Nat) (aMd : Nat) (mB : Int32) (mI : Int32) (mH : Int32) (mQ : Int32) (mW : Int32) (mF : Int32) (v : Int32 × Int32 × Int32 × Int32 × Int32 × Int32 × Int32 × (Nat → Int32) × (Nat → Int32) × (Nat → Int32)) : va_W := [(aM, .inr (6, [.ref aMn, .ref aMt, .ref aMk, .int v.2.1, .ref aMs, .int mB, .ref aMl, .int mI, .ref aMx, .int mH, .int mQ, .int mW, .ref aMd, .int mF, .int v.2.2.1, .int v.2.2.2.1, .int v.2.2.2.2.1, .int v.2.2.2.2.2.1, .int v.2.2.2.2.2.2.1])), (aMn, .inl (K 6, 55, .inl v.2.2.2.2.2.2.2.1)), (aMt, .inl (K 7, 55, .inl v.2.2.2.2.2.2.2.2.1)), (aMk, .inl (K 8, 440, .inl v.2.2.2.2.2.2.2.2.2))]
set_option maxHeartbeats 4000000 in
set_option maxRecDepth 100000 in
theorem c_X8_leave (l : Launch) (D : va_G) (K : Nat → ClassId) (aM : Nat) (aMn : Nat) (aMt : Nat) (aMk : Nat) (aMs : Nat) (aMl : Nat) (aMx : Nat) (aMd : Nat) (mU : Int32) (mB : Int32) (mI : Int32) (mH : Int32) (mQ : Int32) (mW : Int32) (mF : Int32) (mR : Int32) (mD : Int32) (mJ : Int32) (mA : Int32) (mT : Int32) (nN : Nat → Int32) (nT : Nat → Int32) (nK : Nat → Int32) (p1 : Int32) (v : Int32 × Int32 × Int32 × Int32 × Int32 × Int32 × Int32 × (Nat → Int32) × (Nat → Int32) × (Nat → Int32)) (hF : f_X8_leave mU mR mD mJ mA mT nN nT nK p1 = some v) (sz : Nat) :
    (Met l yX8_leave wsX8_leave RM_X8_leave (PC D (TY K) [(aM, .inr (6, [.ref aMn, .ref aMt, .ref aMk, .int mU, .ref aMs, .int mB, .ref aMl, .int mI, .ref aMx, .int mH, .int mQ, .int mW, .ref aMd, .int mF, .int mR, .int mD, .int mJ, .int mA, .int mT])), (aMn, .inl (K 6, 55, .inl nN)), (aMt, .inl (K 7, 55, .inl nT)), (aMk, .inl (K 8, 440, .inl nK))] [.ref aM, .int p1] sz) (QI D (TY K) (wf_X8_leave K aM aMn aMt aMk aMs aMl aMx aMd mB mI mH mQ mW mF) v (va_A [(aM, .inr (6, [.ref aMn, .ref aMt, .ref aMk, .int mU, .ref aMs, .int mB, .ref aMl, .int mI, .ref aMx, .int mH, .int mQ, .int mW, .ref aMd, .int mF, .int mR, .int mD, .int mJ, .int mA, .int mT])), (aMn, .inl (K 6, 55, .inl nN)), (aMt, .inl (K 7, 55, .inl nT)), (aMk, .inl (K 8, 440, .inl nK))] sz)) MC_X8_leave MS_X8_leave (va_A [(aM, .inr (6, [.ref aMn, .ref aMt, .ref aMk, .int mU, .ref aMs, .int mB, .ref aMl, .int mI, .ref aMx, .int mH, .int mQ, .int mW, .ref aMd, .int mF, .int mR, .int mD, .int mJ, .int mA, .int mT])), (aMn, .inl (K 6, 55, .inl nN)), (aMt, .inl (K 7, 55, .inl nT)), (aMk, .inl (K 8, 440, .inl nK))] sz)) := by
  refine pro (Qf := fun A => QI D (TY K) (wf_X8_leave K aM aMn aMt aMk aMs aMl aMx aMd mB mI mH mQ mW mF) v A) (cc := cX8_leave) (maxL := 2) (ret := (some .int)) (by decide +kernel) rfl (Nat.le_of_ble_eq_true rfl) ?_
  intro p e s m args below meth c hx hb hr hts hown hlocks hml hini hK A hA hE hP hD hS ls hl
  have hown : s.vm.findClass RX8 = some m.cls := hown
  have hl : lv_has ls 2 [(0, .ref aM), (1, .int p1)] := hl
  rw [f_X8_leave] at hF
  refine lv_aload_n hx hb dX8_leave_0 rfl (lv_at hl 0 rfl) ?_
  obtain ⟨v1, hv1, hF⟩ := oB hF
  refine call_v (wr := [(aMk, .inl (K 8, 440, .inl nK))]) (wn := [(aM, .inr (6, [.ref aMn, .ref aMt, .ref aMk, .int mU, .ref aMs, .int mB, .ref aMl, .int mI, .ref aMx, .int mH, .int mQ, .int mW, .ref aMd, .int mF, .int mR, .int mD, .int mJ, .int mA, .int v1.1])), (aMn, .inl (K 6, 55, .inl nN)), (aMt, .inl (K 7, 55, .inl v1.2)), (aMk, .inl (K 8, 440, .inl nK))]) (va_runV (As := []) (rest := []) ⟨hx, hb, hml, hown, hts⟩ (c_X8_tries l D K aM aMn aMt aMk aMs aMl aMx aMd mU mB mI mH mQ mW mF mR mD mJ mA mT nN nT v1 hv1 s.heap.size) (cwV 0 hts gX8_leave_X8_tries rfl rfl rfl (by decide +kernel) ⟨(Nat.le_of_ble_eq_true rfl), (Nat.le_of_ble_eq_true rfl)⟩) (prV hE hK hP hD hS hA [0, 1, 2] rfl rfl 6 0 rfl rfl rfl) rfl rfl hl.1 rfl (lv_room (Nat.le_of_ble_eq_true rfl)) dX8_leave_1 ⟨(Nat.le_of_ble_eq_true rfl), (Nat.le_of_ble_eq_true rfl)⟩) hP hD hS hA [0, 1, 2] [3] [1, 2, 3, 0] rfl rfl rfl (by decide) rfl rfl (fun H locs hP hD hS => ?_)
  refine lv_aload_n hx hb dX8_leave_4 rfl (lv_at hl 0 rfl) ?_
  refine lv_aload_n hx hb dX8_leave_5 rfl (lv_at hl 0 rfl) ?_
  refine lv_iload_n hx hb dX8_leave_6 rfl (lv_at hl 1 rfl) ?_
  obtain ⟨v2, hv2, hF⟩ := oB hF
  refine call_i (wr := [(aMt, .inl (K 7, 55, .inl v1.2)), (aMk, .inl (K 8, 440, .inl nK))]) (wn := [(aM, .inr (6, [.ref aMn, .ref aMt, .ref aMk, .int mU, .ref aMs, .int mB, .ref aMl, .int mI, .ref aMx, .int mH, .int mQ, .int mW, .ref aMd, .int mF, .int v2.2.1, .int v2.2.2.1, .int v2.2.2.2.1, .int v2.2.2.2.2.1, .int v1.1])), (aMn, .inl (K 6, 55, .inl v2.2.2.2.2.2)), (aMt, .inl (K 7, 55, .inl v1.2)), (aMk, .inl (K 8, 440, .inl nK))]) (va_runV (As := [.int p1]) (rest := [.ref aM]) ⟨hx, hb, hml, hown, hts⟩ (c_X8_leaves l D K aM aMn aMt aMk aMs aMl aMx aMd mU mB mI mH mQ mW mF mR mD mJ mA v1.1 nN p1 v2 hv2 H.size) (cwV 1 hts gX8_leave_X8_leaves rfl rfl rfl (by decide +kernel) ⟨(Nat.le_of_ble_eq_true rfl), (Nat.le_of_ble_eq_true rfl)⟩) (prV hE hK hP hD hS hA [0, 1] rfl rfl 6 0 rfl rfl rfl) rfl rfl hl.1 rfl (lv_room (Nat.le_of_ble_eq_true rfl)) dX8_leave_7 ⟨(Nat.le_of_ble_eq_true rfl), (Nat.le_of_ble_eq_true rfl)⟩) hP hD hS hA [0, 1] [2, 3] [2, 3, 0, 1] rfl rfl rfl (by decide) rfl rfl (fun H locs hP hD hS => ?_)
  obtain ⟨v3, hv3, hF⟩ := oB hF
  refine call_i (wr := [(aMn, .inl (K 6, 55, .inl v2.2.2.2.2.2))]) (wn := [(aM, .inr (6, [.ref aMn, .ref aMt, .ref aMk, .int v3.2.1, .ref aMs, .int mB, .ref aMl, .int mI, .ref aMx, .int mH, .int mQ, .int mW, .ref aMd, .int mF, .int v2.2.1, .int v2.2.2.1, .int v2.2.2.2.1, .int v2.2.2.2.2.1, .int v3.2.2.1])), (aMn, .inl (K 6, 55, .inl v2.2.2.2.2.2)), (aMt, .inl (K 7, 55, .inl v1.2)), (aMk, .inl (K 8, 440, .inl v3.2.2.2))]) (va_runV (As := [.int v2.1]) (rest := []) ⟨hx, hb, hml, hown, hts⟩ (c_X8_ends l D K aM aMn aMt aMk aMs aMl aMx aMd mU mB mI mH mQ mW mF v2.2.1 v2.2.2.1 v2.2.2.2.1 v2.2.2.2.2.1 v1.1 v1.2 nK v2.1 v3 hv3 H.size) (cwV 1 hts gX8_leave_X8_ends rfl rfl rfl (by decide +kernel) ⟨(Nat.le_of_ble_eq_true rfl), (Nat.le_of_ble_eq_true rfl)⟩) (prV hE hK hP hD hS hA [0, 2, 3] rfl rfl 6 0 rfl rfl rfl) rfl rfl hl.1 rfl (lv_room (Nat.le_of_ble_eq_true rfl)) dX8_leave_10 ⟨(Nat.le_of_ble_eq_true rfl), (Nat.le_of_ble_eq_true rfl)⟩) hP hD hS hA [0, 2, 3] [1] [1, 0, 2, 3] rfl rfl rfl (by decide) rfl rfl (fun H locs hP hD hS => ?_)
  exact fin_i (u := (v3.1, (v3.2.1, v2.2.1, v2.2.2.1, v2.2.2.2.1, v2.2.2.2.2.1, v3.2.2.1, v2.2.2.2.2.2, v1.2, v3.2.2.2))) hF hx hb hr hlocks hK hP hD hS (Nat.le_of_ble_eq_true rfl) (Nat.le_of_ble_eq_true rfl) dX8_leave_13
abbrev RM_X8_apart : Room := { frames := 1, cells := 0, slots := 0, locals := 21 }
abbrev MC_X8_apart : Nat := 0
abbrev MS_X8_apart : Nat := 0
abbrev wf_X8_apart (K : Nat → ClassId)   (v : Int32 × Unit) : va_W := []
set_option maxHeartbeats 4000000 in
set_option maxRecDepth 100000 in
theorem c_X8_apart (l : Launch) (D : va_G) (K : Nat → ClassId)   (p1 : Int32) (p2 : Int32) (v : Int32 × Unit) (hF : f_X8_apart p1 p2 = some v) (sz : Nat) :
    (Met l yX8_apart wsX8_apart RM_X8_apart (PC D (TY K) [] [.int p1, .int p2] sz) (QI D (TY K) (wf_X8_apart K) v (va_A [] sz)) MC_X8_apart MS_X8_apart (va_A [] sz)) := by
  refine pro (Qf := fun A => QI D (TY K) (wf_X8_apart K) v A) (cc := cX8_apart) (maxL := 2) (ret := (some .int)) (by decide +kernel) rfl (Nat.le_of_ble_eq_true rfl) ?_
  intro p e s m args below meth c hx hb hr hts hown hlocks hml hini hK A hA hE hP hD hS ls hl
  have hown : s.vm.findClass RX8 = some m.cls := hown
  have hl : lv_has ls 2 [(0, .int p1), (1, .int p2)] := hl
  rw [f_X8_apart] at hF
  refine lv_iload_n hx hb dX8_apart_0 rfl (lv_at hl 0 rfl) ?_
  refine lv_iload_n hx hb dX8_apart_1 rfl (lv_at hl 1 rfl) ?_
  refine lv_isub hx hb dX8_apart_2 ?_
  refine va_mabs hx hb (hml.trans hl.1.symm) hown (hts (.methodLink RX8 106 Lib.Math.abs.name) (List.mem_of_getElem? (i := 1) rfl)) (hts (.static Lib.Math.abs.name) (List.mem_of_getElem? (i := 2) rfl)) (hts (.initialized "java/lang/Math") (List.mem_of_getElem? (i := 3) rfl)) (hts (.code Lib.Math.abs.name Lib.Math.abs.code 1 (some .int)) (List.mem_of_getElem? (i := 4) rfl)) (Nat.le_of_ble_eq_true rfl) (Nat.le_of_ble_eq_true rfl) (Nat.le_of_ble_eq_true rfl) (Nat.le_of_ble_eq_true rfl) dX8_apart_3 ?_
  refine W.eq (g2 := F0 m 6 ls [.int (jabs (p1 - p2))]) rfl ?_
  exact fin_i (u := (jabs (p1 - p2), ())) hF hx hb hr hlocks hK hP hD hS (Nat.le_of_ble_eq_true rfl) (Nat.le_of_ble_eq_true rfl) dX8_apart_6
