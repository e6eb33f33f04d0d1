abbrev RM_X8_commands : Room := { frames := 5, cells := 0, slots := 0, locals := 113 }
abbrev MC_X8_commands : Nat := 0
abbrev MS_X8_commands : Nat := 0
abbrev wf_X8_commands (K : Nat → ClassId) (aM : Nat) (aMn : Nat) (aMt : Nat) (aMk : Nat) (aMs : Nat) (aMl : Nat) (aMx : Nat) (aMd : Nat) (mB : Int32) (mI : Int32) (nX : Nat → Int32) (v : Int32 × Int32 × Int32 × Int32 × Int32 × Int32 × Int32 × Int32 × Int32 × Int32 × Int32 × (Nat → Int32) × (Nat → Int32) × (Nat → Int32) × (Nat → Int32)) : va_W := [(aM, .inr (6, [.ref aMn, .ref aMt, .ref aMk, .int v.2.1, .ref aMs, .int mB, .ref aMl, .int mI, .ref aMx, .int v.2.2.1, .int v.2.2.2.1, .int v.2.2.2.2.1, .ref aMd, .int v.2.2.2.2.2.1, .int v.2.2.2.2.2.2.1, .int v.2.2.2.2.2.2.2.1, .int v.2.2.2.2.2.2.2.2.1, .int v.2.2.2.2.2.2.2.2.2.1, .int v.2.2.2.2.2.2.2.2.2.2.1])), (aMn, .inl (K 6, 55, .inl v.2.2.2.2.2.2.2.2.2.2.2.1)), (aMt, .inl (K 7, 55, .inl v.2.2.2.2.2.2.2.2.2.2.2.2.1)), (aMk, .inl (K 8, 440, .inl v.2.2.2.2.2.2.2.2.2.2.2.2.2.1)), (aMx, .inl (K 11, 60, .inl nX)), (aMd, .inl (K 12, 3, .inl v.2.2.2.2.2.2.2.2.2.2.2.2.2.2))]
set_option maxHeartbeats 4000000 in
set_option maxRecDepth 100000 in
theorem c_X8_commands (l : Launch) (D : va_G) (K : Nat → ClassId) (aM : Nat) (aMn : Nat) (aMt : Nat) (aMk : Nat) (aMs : Nat) (aMl : Nat) (aMx : Nat) (aMd : Nat) (mU : Int32) (mB : Int32) (mI : Int32) (mH : Int32) (mQ : Int32) (mW : Int32) (mF : Int32) (mR : Int32) (mD : Int32) (mJ : Int32) (mA : Int32) (mT : Int32) (nN : Nat → Int32) (nT : Nat → Int32) (nK : Nat → Int32) (nX : Nat → Int32) (nD : Nat → Int32)  (v : Int32 × Int32 × Int32 × Int32 × Int32 × Int32 × Int32 × Int32 × Int32 × Int32 × Int32 × (Nat → Int32) × (Nat → Int32) × (Nat → Int32) × (Nat → Int32)) (hF : f_X8_commands mU mH mQ mW mF mR mD mJ mA mT nN nT nK nX nD = some v) (sz : Nat) :
    (Met l yX8_commands wsX8_commands RM_X8_commands (PC D (TY K) [(aM, .inr (6, [.ref aMn, .ref aMt, .ref aMk, .int mU, .ref aMs, .int mB, .ref aMl, .int mI, .ref aMx, .int mH, .int mQ, .int mW, .ref aMd, .int mF, .int mR, .int mD, .int mJ, .int mA, .int mT])), (aMn, .inl (K 6, 55, .inl nN)), (aMt, .inl (K 7, 55, .inl nT)), (aMk, .inl (K 8, 440, .inl nK)), (aMx, .inl (K 11, 60, .inl nX)), (aMd, .inl (K 12, 3, .inl nD))] [.ref aM] sz) (QI D (TY K) (wf_X8_commands K aM aMn aMt aMk aMs aMl aMx aMd mB mI nX) v (va_A [(aM, .inr (6, [.ref aMn, .ref aMt, .ref aMk, .int mU, .ref aMs, .int mB, .ref aMl, .int mI, .ref aMx, .int mH, .int mQ, .int mW, .ref aMd, .int mF, .int mR, .int mD, .int mJ, .int mA, .int mT])), (aMn, .inl (K 6, 55, .inl nN)), (aMt, .inl (K 7, 55, .inl nT)), (aMk, .inl (K 8, 440, .inl nK)), (aMx, .inl (K 11, 60, .inl nX)), (aMd, .inl (K 12, 3, .inl nD))] sz)) MC_X8_commands MS_X8_commands (va_A [(aM, .inr (6, [.ref aMn, .ref aMt, .ref aMk, .int mU, .ref aMs, .int mB, .ref aMl, .int mI, .ref aMx, .int mH, .int mQ, .int mW, .ref aMd, .int mF, .int mR, .int mD, .int mJ, .int mA, .int mT])), (aMn, .inl (K 6, 55, .inl nN)), (aMt, .inl (K 7, 55, .inl nT)), (aMk, .inl (K 8, 440, .inl nK)), (aMx, .inl (K 11, 60, .inl nX)), (aMd, .inl (K 12, 3, .inl nD))] sz)) := by
  refine pro (Qf := fun A => QI D (TY K) (wf_X8_commands K aM aMn aMt aMk aMs aMl aMx aMd mB mI nX) v A) (cc := cX8_commands) (maxL := 6) (ret := (some .int)) (by decide +kernel) rfl (Nat.le_of_ble_eq_true rfl) ?_
  intro p e s m args below meth c hx hb hr hts hown hlocks hml hini hK A hA hE hP hD hS ls hl
  have hown : s.vm.findClass RX8 = some m.cls := hown
  have hl : lv_has ls 6 [(0, .ref aM)] := hl
  have loop_162 : ∀ (mU_162 : Int32) (mH_162 : Int32) (mQ_162 : Int32) (mW_162 : Int32) (mF_162 : Int32) (mR_162 : Int32) (mD_162 : Int32) (mJ_162 : Int32) (mA_162 : Int32) (mT_162 : Int32) (n : Nat) (y162_5 : Int32) (nN_162 : Nat → Int32) (nT_162 : Nat → Int32) (nK_162 : Nat → Int32) (nD_162 : Nat → Int32), f_X8_commands_L162 mU_162 mH_162 mQ_162 mW_162 mF_162 mR_162 mD_162 mJ_162 mA_162 mT_162 n y162_5 nN_162 nT_162 nK_162 nD_162 = some v → ∀ (H : Heap) (locs : List Loc), va_P D vwC7 [(aM, .inr (6, [.ref aMn, .ref aMt, .ref aMk, .int mU_162, .ref aMs, .int mB, .ref aMl, .int mI, .ref aMx, .int mH_162, .int mQ_162, .int mW_162, .ref aMd, .int mF_162, .int mR_162, .int mD_162, .int mJ_162, .int mA_162, .int mT_162])), (aMn, .inl (K 6, 55, .inl nN_162)), (aMt, .inl (K 7, 55, .inl nT_162)), (aMk, .inl (K 8, 440, .inl nK_162)), (aMx, .inl (K 11, 60, .inl nX)), (aMd, .inl (K 12, 3, .inl nD_162))] H → va_D A [(aM, .inr (6, [.ref aMn, .ref aMt, .ref aMk, .int mU_162, .ref aMs, .int mB, .ref aMl, .int mI, .ref aMx, .int mH_162, .int mQ_162, .int mW_162, .ref aMd, .int mF_162, .int mR_162, .int mD_162, .int mJ_162, .int mA_162, .int mT_162])), (aMn, .inl (K 6, 55, .inl nN_162)), (aMt, .inl (K 7, 55, .inl nT_162)), (aMk, .inl (K 8, 440, .inl nK_162)), (aMx, .inl (K 11, 60, .inl nX)), (aMd, .inl (K 12, 3, .inl nD_162))] → va_S A s.heap H locs → ∀ ls : Array Slot, lv_has ls 6 [(0, .ref aM), (5, .int y162_5)] → W p l e RM_X8_commands s m args below meth c H locs 0 0 (MQ below (QI D (TY K) (wf_X8_commands K aM aMn aMt aMk aMs aMl aMx aMd mB mI nX) v A) args s MC_X8_commands MS_X8_commands A) (F0 m 162 ls []) := by
    intro mU_162 mH_162 mQ_162 mW_162 mF_162 mR_162 mD_162 mJ_162 mA_162 mT_162 n
    induction n with
    | zero =>
      intro y162_5 nN_162 nT_162 nK_162 nD_162 hF
      exact nomatch hF
    | succ n ih =>
      intro y162_5 nN_162 nT_162 nK_162 nD_162 hF H locs hP hD hS ls hl
      rw [f_X8_commands_L162.eq_2] at hF
      refine lv_iload hx hb dX8_commands_162 (lv_at hl 1 rfl) ?_
      refine lv_bipush (v := (55 : Int32)) hx hb dX8_commands_164 (by decide) ?_
      refine lv_icmp_ge (tgt := 189) hx hb dX8_commands_166 (by decide) (fun c7 => ?_) (fun c7 => ?_)
      · have hF := oT c7 hF
        refine lv_aload_n hx hb dX8_commands_189 rfl (lv_at hl 0 rfl) ?_
        refine lv_iconst (v := (2 : Int32)) hx hb dX8_commands_190 (by decide) ?_
        obtain ⟨v8, hv8, hF⟩ := oB hF
        refine call_i (wr := [(aMn, .inl (K 6, 55, .inl nN_162)), (aMt, .inl (K 7, 55, .inl nT_162)), (aMk, .inl (K 8, 440, .inl nK_162)), (aMx, .inl (K 11, 60, .inl nX)), (aMd, .inl (K 12, 3, .inl nD_162))]) (wn := [(aM, .inr (6, [.ref aMn, .ref aMt, .ref aMk, .int mU_162, .ref aMs, .int mB, .ref aMl, .int mI, .ref aMx, .int mH_162, .int mQ_162, .int mW_162, .ref aMd, .int mF_162, .int mR_162, .int mD_162, .int mJ_162, .int mA_162, .int v8.2])), (aMn, .inl (K 6, 55, .inl nN_162)), (aMt, .inl (K 7, 55, .inl nT_162)), (aMk, .inl (K 8, 440, .inl nK_162)), (aMx, .inl (K 11, 60, .inl nX)), (aMd, .inl (K 12, 3, .inl nD_162))]) (va_runV (As := [.int (2 : Int32)]) (rest := []) ⟨hx, hb, hml, hown, hts⟩ (c_X8_raises l D K aM aMn aMt aMk aMs aMl aMx aMd mU_162 mB mI mH_162 mQ_162 mW_162 mF_162 mR_162 mD_162 mJ_162 mA_162 mT_162 (2 : Int32) v8 hv8 H.size) (cwV 1 hts gX8_commands_X8_raises rfl rfl rfl (by decide +kernel) ⟨(Nat.le_of_ble_eq_true rfl), (Nat.le_of_ble_eq_true rfl)⟩) (prV hE hK hP hD hS hA [0] rfl rfl 6 0 rfl rfl rfl) rfl rfl hl.1 rfl (lv_room (Nat.le_of_ble_eq_true rfl)) dX8_commands_191 ⟨(Nat.le_of_ble_eq_true rfl), (Nat.le_of_ble_eq_true rfl)⟩) hP hD hS hA [0] [1, 2, 3, 4, 5] [5, 0, 1, 2, 3, 4] rfl rfl rfl (by decide) rfl rfl (fun H locs hP hD hS => ?_)
        exact fin_i (u := (v8.1, (mU_162, mH_162, mQ_162, mW_162, mF_162, mR_162, mD_162, mJ_162, mA_162, v8.2, nN_162, nT_162, nK_162, nD_162))) hF hx hb hr hlocks hK hP hD hS (Nat.le_of_ble_eq_true rfl) (Nat.le_of_ble_eq_true rfl) dX8_commands_194
      · have hF := oF c7 hF
        refine lv_aload_n hx hb dX8_commands_169 rfl (lv_at hl 0 rfl) ?_
        refine va_get (D := D) (ci := 6) (v := .ref aMn) (C := RX8) (T := TX8) (N := 19) hx hb hts (fun _ h => List.mem_cons_of_mem _ (List.mem_append_left _ (List.mem_append_left _ (List.mem_append_left _ (List.mem_append_right _ h))))) hown hK hP 0 rfl rfl 0 (by decide) (hts (.fieldLink RX8 9 "BarometerClubModel" "now" "[I") (List.mem_of_getElem? (i := 5) rfl)) (fun _ h9 => h9) rfl dX8_commands_170 ?_
        refine lv_iload hx hb dX8_commands_173 (lv_at hl 1 rfl) ?_
        refine lv_aload_n hx hb dX8_commands_175 rfl (lv_at hl 0 rfl) ?_
        refine va_get (D := D) (ci := 6) (v := .ref aMt) (C := RX8) (T := TX8) (N := 19) hx hb hts (fun _ h => List.mem_cons_of_mem _ (List.mem_append_left _ (List.mem_append_left _ (List.mem_append_left _ (List.mem_append_right _ h))))) hown hK hP 0 rfl rfl 1 (by decide) (hts (.fieldLink RX8 13 "BarometerClubModel" "tried" "[I") (List.mem_of_getElem? (i := 6) rfl)) (fun _ h9 => h9) rfl dX8_commands_176 ?_
        refine lv_iload hx hb dX8_commands_179 (lv_at hl 1 rfl) ?_
        obtain ⟨g9, hF⟩ := oG hF
        refine va_iald hx hb hK hP 2 7 rfl rfl (inB_in g9) dX8_commands_181 ?_
        obtain ⟨g10, hF⟩ := oG hF
        refine va_iast hx hb hK hP hD hS 1 6 rfl rfl (inB_in g10) dX8_commands_182 (fun H locs hP hD hS => ?_)
        have hP : va_P D vwC7 [(aM, .inr (6, [.ref aMn, .ref aMt, .ref aMk, .int mU_162, .ref aMs, .int mB, .ref aMl, .int mI, .ref aMx, .int mH_162, .int mQ_162, .int mW_162, .ref aMd, .int mF_162, .int mR_162, .int mD_162, .int mJ_162, .int mA_162, .int mT_162])), (aMn, .inl (K 6, 55, .inl (upd nN_162 y162_5.toNatClampNeg (nT_162 y162_5.toNatClampNeg)))), (aMt, .inl (K 7, 55, .inl nT_162)), (aMk, .inl (K 8, 440, .inl nK_162)), (aMx, .inl (K 11, 60, .inl nX)), (aMd, .inl (K 12, 3, .inl nD_162))] H := hP
        have hD : va_D A [(aM, .inr (6, [.ref aMn, .ref aMt, .ref aMk, .int mU_162, .ref aMs, .int mB, .ref aMl, .int mI, .ref aMx, .int mH_162, .int mQ_162, .int mW_162, .ref aMd, .int mF_162, .int mR_162, .int mD_162, .int mJ_162, .int mA_162, .int mT_162])), (aMn, .inl (K 6, 55, .inl (upd nN_162 y162_5.toNatClampNeg (nT_162 y162_5.toNatClampNeg)))), (aMt, .inl (K 7, 55, .inl nT_162)), (aMk, .inl (K 8, 440, .inl nK_162)), (aMx, .inl (K 11, 60, .inl nX)), (aMd, .inl (K 12, 3, .inl nD_162))] := hD
        refine lv_iinc (v := y162_5 + (1 : Int32)) (lv' := [(5, .int (y162_5 + (1 : Int32))), (0, .ref aM)]) hx hb dX8_commands_183 hl (k := 1) rfl (by first | rfl | decide) (by decide) rfl (fun ls hl => ?_)
        refine lv_goto (tgt := 162) hx hb dX8_commands_186 (by decide) ?_
        exact ih (y162_5 + (1 : Int32)) (upd nN_162 y162_5.toNatClampNeg (nT_162 y162_5.toNatClampNeg)) nT_162 nK_162 nD_162 hF _ _ hP hD hS _ (lv_sub hl [1, 0] rfl)
  have loop_94 : ∀ (mU_94 : Int32) (mH_94 : Int32) (mF_94 : Int32) (mT_94 : Int32) (nT_94 : Nat → Int32) (nK_94 : Nat → Int32) (n : Nat) (y94_2 : Int32) (y94_3 : Int32) (y94_4 : Int32) (mQ_94 : Int32) (mW_94 : Int32) (mR_94 : Int32) (mD_94 : Int32) (mJ_94 : Int32) (mA_94 : Int32) (nN_94 : Nat → Int32) (nD_94 : Nat → Int32), f_X8_commands_L94 nX mU_94 mH_94 mF_94 mT_94 nT_94 nK_94 n y94_2 y94_3 y94_4 mQ_94 mW_94 mR_94 mD_94 mJ_94 mA_94 nN_94 nD_94 = some v → ∀ (H : Heap) (locs : List Loc), va_P D vwC7 [(aM, .inr (6, [.ref aMn, .ref aMt, .ref aMk, .int mU_94, .ref aMs, .int mB, .ref aMl, .int mI, .ref aMx, .int mH_94, .int mQ_94, .int mW_94, .ref aMd, .int mF_94, .int mR_94, .int mD_94, .int mJ_94, .int mA_94, .int mT_94])), (aMn, .inl (K 6, 55, .inl nN_94)), (aMt, .inl (K 7, 55, .inl nT_94)), (aMk, .inl (K 8, 440, .inl nK_94)), (aMx, .inl (K 11, 60, .inl nX)), (aMd, .inl (K 12, 3, .inl nD_94))] H → va_D A [(aM, .inr (6, [.ref aMn, .ref aMt, .ref aMk, .int mU_94, .ref aMs, .int mB, .ref aMl, .int mI, .ref aMx, .int mH_94, .int mQ_94, .int mW_94, .ref aMd, .int mF_94, .int mR_94, .int mD_94, .int mJ_94, .int mA_94, .int mT_94])), (aMn, .inl (K 6, 55, .inl nN_94)), (aMt, .inl (K 7, 55, .inl nT_94)), (aMk, .inl (K 8, 440, .inl nK_94)), (aMx, .inl (K 11, 60, .inl nX)), (aMd, .inl (K 12, 3, .inl nD_94))] → va_S A s.heap H locs → ∀ ls : Array Slot, lv_has ls 6 [(0, .ref aM), (2, .int y94_2), (3, .int y94_3), (4, .int y94_4)] → W p l e RM_X8_commands s m args below meth c H locs 0 0 (MQ below (QI D (TY K) (wf_X8_commands K aM aMn aMt aMk aMs aMl aMx aMd mB mI nX) v A) args s MC_X8_commands MS_X8_commands A) (F0 m 94 ls []) := by
    intro mU_94 mH_94 mF_94 mT_94 nT_94 nK_94 n
    induction n with
    | zero =>
      intro y94_2 y94_3 y94_4 mQ_94 mW_94 mR_94 mD_94 mJ_94 mA_94 nN_94 nD_94 hF
      exact nomatch hF
    | succ n ih =>
      intro y94_2 y94_3 y94_4 mQ_94 mW_94 mR_94 mD_94 mJ_94 mA_94 nN_94 nD_94 hF H locs hP hD hS ls hl
      rw [f_X8_commands_L94.eq_2] at hF
      refine lv_iload hx hb dX8_commands_94 (lv_at hl 3 rfl) ?_
      refine lv_if_eq (tgt := 139) hx hb dX8_commands_96 (by decide) (fun c5 => ?_) (fun c5 => ?_)
      · have hF := oT c5 hF
        refine lv_aload_n hx hb dX8_commands_139 rfl (lv_at hl 0 rfl) ?_
        refine lv_iconst (v := (0 : Int32)) hx hb dX8_commands_140 (by decide) ?_
        refine va_put (D := D) (ci := 6) (v := .int (0 : Int32)) (ty := .int) (C := RX8) (T := TX8) (N := 19) hx hb hts (fun _ h => List.mem_cons_of_mem _ (List.mem_append_left _ (List.mem_append_left _ (List.mem_append_left _ (List.mem_append_right _ h))))) tyX8 tyX8_ok nmX8 hown hK hP hD hS 0 rfl rfl 9 (by decide) (hts (.fieldLink RX8 176 "BarometerClubModel" "length" "I") (List.mem_of_getElem? (i := 3) rfl)) (fun _ h9 => h9) rfl (by decide +kernel) rfl rfl (Nat.le_of_ble_eq_true rfl) dX8_commands_141 (fun H locs hP hD hS => ?_)
        have hP : va_P D vwC7 [(aM, .inr (6, [.ref aMn, .ref aMt, .ref aMk, .int mU_94, .ref aMs, .int mB, .ref aMl, .int mI, .ref aMx, .int (0 : Int32), .int mQ_94, .int mW_94, .ref aMd, .int mF_94, .int mR_94, .int mD_94, .int mJ_94, .int mA_94, .int mT_94])), (aMn, .inl (K 6, 55, .inl nN_94)), (aMt, .inl (K 7, 55, .inl nT_94)), (aMk, .inl (K 8, 440, .inl nK_94)), (aMx, .inl (K 11, 60, .inl nX)), (aMd, .inl (K 12, 3, .inl nD_94))] H := hP
        have hD : va_D A [(aM, .inr (6, [.ref aMn, .ref aMt, .ref aMk, .int mU_94, .ref aMs, .int mB, .ref aMl, .int mI, .ref aMx, .int (0 : Int32), .int mQ_94, .int mW_94, .ref aMd, .int mF_94, .int mR_94, .int mD_94, .int mJ_94, .int mA_94, .int mT_94])), (aMn, .inl (K 6, 55, .inl nN_94)), (aMt, .inl (K 7, 55, .inl nT_94)), (aMk, .inl (K 8, 440, .inl nK_94)), (aMx, .inl (K 11, 60, .inl nX)), (aMd, .inl (K 12, 3, .inl nD_94))] := hD
        refine lv_iload_n hx hb dX8_commands_144 rfl (lv_at hl 2 rfl) ?_
        refine lv_if_eq (tgt := 154) hx hb dX8_commands_145 (by decide) (fun c6 => ?_) (fun c6 => ?_)
        · have hF := oT c6 hF
          refine lv_aload_n hx hb dX8_commands_154 rfl (lv_at hl 0 rfl) ?_
          refine lv_iload_n hx hb dX8_commands_155 rfl (lv_at hl 1 rfl) ?_
          refine va_put (D := D) (ci := 6) (v := .int y94_2) (ty := .int) (C := RX8) (T := TX8) (N := 19) hx hb hts (fun _ h => List.mem_cons_of_mem _ (List.mem_append_left _ (List.mem_append_left _ (List.mem_append_left _ (List.mem_append_right _ h))))) tyX8 tyX8_ok nmX8 hown hK hP hD hS 0 rfl rfl 16 (by decide) (hts (.fieldLink RX8 51 "BarometerClubModel" "index" "I") (List.mem_of_getElem? (i := 4) rfl)) (fun _ h9 => h9) rfl (by decide +kernel) rfl rfl (Nat.le_of_ble_eq_true rfl) dX8_commands_156 (fun H locs hP hD hS => ?_)
          have hP : va_P D vwC7 [(aM, .inr (6, [.ref aMn, .ref aMt, .ref aMk, .int mU_94, .ref aMs, .int mB, .ref aMl, .int mI, .ref aMx, .int (0 : Int32), .int mQ_94, .int mW_94, .ref aMd, .int mF_94, .int mR_94, .int mD_94, .int y94_2, .int mA_94, .int mT_94])), (aMn, .inl (K 6, 55, .inl nN_94)), (aMt, .inl (K 7, 55, .inl nT_94)), (aMk, .inl (K 8, 440, .inl nK_94)), (aMx, .inl (K 11, 60, .inl nX)), (aMd, .inl (K 12, 3, .inl nD_94))] H := hP
          have hD : va_D A [(aM, .inr (6, [.ref aMn, .ref aMt, .ref aMk, .int mU_94, .ref aMs, .int mB, .ref aMl, .int mI, .ref aMx, .int (0 : Int32), .int mQ_94, .int mW_94, .ref aMd, .int mF_94, .int mR_94, .int mD_94, .int y94_2, .int mA_94, .int mT_94])), (aMn, .inl (K 6, 55, .inl nN_94)), (aMt, .inl (K 7, 55, .inl nT_94)), (aMk, .inl (K 8, 440, .inl nK_94)), (aMx, .inl (K 11, 60, .inl nX)), (aMd, .inl (K 12, 3, .inl nD_94))] := hD
          refine lv_iconst (v := (0 : Int32)) hx hb dX8_commands_159 (by decide) ?_
          refine lv_istore (lv' := [(5, .int (0 : Int32)), (0, .ref aM), (2, .int y94_2), (3, .int y94_3), (4, .int y94_4)]) hx hb dX8_commands_160 hl (by decide) rfl (fun ls hl => ?_)
          exact loop_162 mU_94 (0 : Int32) mQ_94 mW_94 mF_94 mR_94 mD_94 y94_2 mA_94 mT_94 FU (0 : Int32) nN_94 nT_94 nK_94 nD_94 hF _ _ hP hD hS _ (lv_sub hl [1, 0] rfl)
        · have hF := oF c6 hF
          refine lv_aload_n hx hb dX8_commands_148 rfl (lv_at hl 0 rfl) ?_
          refine lv_iload_n hx hb dX8_commands_149 rfl (lv_at hl 1 rfl) ?_
          obtain ⟨v11, hv11, hF⟩ := oB hF
          refine call_i (wr := [(aMn, .inl (K 6, 55, .inl nN_94)), (aMx, .inl (K 11, 60, .inl nX)), (aMd, .inl (K 12, 3, .inl nD_94))]) (wn := [(aM, .inr (6, [.ref aMn, .ref aMt, .ref aMk, .int v11.2.1, .ref aMs, .int mB, .ref aMl, .int mI, .ref aMx, .int (0 : Int32), .int mQ_94, .int mW_94, .ref aMd, .int mF_94, .int mR_94, .int mD_94, .int mJ_94, .int mA_94, .int mT_94])), (aMn, .inl (K 6, 55, .inl nN_94)), (aMt, .inl (K 7, 55, .inl nT_94)), (aMk, .inl (K 8, 440, .inl v11.2.2)), (aMx, .inl (K 11, 60, .inl nX)), (aMd, .inl (K 12, 3, .inl nD_94))]) (va_runV (As := [.int y94_2]) (rest := []) ⟨hx, hb, hml, hown, hts⟩ (c_X8_keeps l D K aM aMn aMt aMk aMs aMl aMx aMd mU_94 mB mI (0 : Int32) mQ_94 mW_94 mF_94 mR_94 mD_94 mJ_94 mA_94 mT_94 nT_94 nK_94 y94_2 v11 hv11 H.size) (cwV 1 hts gX8_commands_X8_keeps rfl rfl rfl (by decide +kernel) ⟨(Nat.le_of_ble_eq_true rfl), (Nat.le_of_ble_eq_true rfl)⟩) (prV hE hK hP hD hS hA [0, 2, 3] rfl rfl 6 0 rfl rfl rfl) rfl rfl hl.1 rfl (lv_room (Nat.le_of_ble_eq_true rfl)) dX8_commands_150 ⟨(Nat.le_of_ble_eq_true rfl), (Nat.le_of_ble_eq_true rfl)⟩) hP hD hS hA [0, 2, 3] [1, 4, 5] [3, 0, 4, 5, 1, 2] rfl rfl rfl (by decide) rfl rfl (fun H locs hP hD hS => ?_)
          exact fin_i (u := (v11.1, (v11.2.1, (0 : Int32), mQ_94, mW_94, mF_94, mR_94, mD_94, mJ_94, mA_94, mT_94, nN_94, nT_94, v11.2.2, nD_94))) hF hx hb hr hlocks hK hP hD hS (Nat.le_of_ble_eq_true rfl) (Nat.le_of_ble_eq_true rfl) dX8_commands_153
      · have hF := oF c5 hF
        refine lv_aload_n hx hb dX8_commands_99 rfl (lv_at hl 0 rfl) ?_
        obtain ⟨v12, hv12, hF⟩ := oB hF
        refine call_i (wr := [(aMn, .inl (K 6, 55, .inl nN_94)), (aMt, .inl (K 7, 55, .inl nT_94)), (aMk, .inl (K 8, 440, .inl nK_94))]) (wn := [(aM, .inr (6, [.ref aMn, .ref aMt, .ref aMk, .int mU_94, .ref aMs, .int mB, .ref aMl, .int mI, .ref aMx, .int mH_94, .int v12.2.1, .int v12.2.2.1, .ref aMd, .int mF_94, .int mR_94, .int mD_94, .int mJ_94, .int mA_94, .int mT_94])), (aMn, .inl (K 6, 55, .inl nN_94)), (aMt, .inl (K 7, 55, .inl nT_94)), (aMk, .inl (K 8, 440, .inl nK_94)), (aMx, .inl (K 11, 60, .inl nX)), (aMd, .inl (K 12, 3, .inl v12.2.2.2))]) (va_runV (As := []) (rest := []) ⟨hx, hb, hml, hown, hts⟩ (c_X8_isCommand l D K aM aMn aMt aMk aMs aMl aMx aMd mU_94 mB mI mH_94 mQ_94 mW_94 mF_94 mR_94 mD_94 mJ_94 mA_94 mT_94 nX nD_94 v12 hv12 H.size) (cwV 0 hts gX8_commands_X8_isCommand rfl rfl rfl (by decide +kernel) ⟨(Nat.le_of_ble_eq_true rfl), (Nat.le_of_ble_eq_true rfl)⟩) (prV hE hK hP hD hS hA [0, 4, 5] rfl rfl 6 0 rfl rfl rfl) rfl rfl hl.1 rfl (lv_room (Nat.le_of_ble_eq_true rfl)) dX8_commands_100 ⟨(Nat.le_of_ble_eq_true rfl), (Nat.le_of_ble_eq_true rfl)⟩) hP hD hS hA [0, 4, 5] [1, 2, 3] [3, 0, 1, 2, 4, 5] rfl rfl rfl (by decide) rfl rfl (fun H locs hP hD hS => ?_)
        refine lv_istore_n (lv' := [(1, .int v12.1), (0, .ref aM), (2, .int y94_2), (3, .int y94_3), (4, .int y94_4)]) hx hb dX8_commands_103 rfl hl (by decide) rfl (fun ls hl => ?_)
        refine lv_aload_n hx hb dX8_commands_104 rfl (lv_at hl 1 rfl) ?_
        obtain ⟨v13, hv13, hF⟩ := oB hF
        refine call_i (wr := [(aMt, .inl (K 7, 55, .inl nT_94)), (aMk, .inl (K 8, 440, .inl nK_94)), (aMx, .inl (K 11, 60, .inl nX))]) (wn := [(aM, .inr (6, [.ref aMn, .ref aMt, .ref aMk, .int mU_94, .ref aMs, .int mB, .ref aMl, .int mI, .ref aMx, .int mH_94, .int v12.2.1, .int v12.2.2.1, .ref aMd, .int mF_94, .int v13.2.1, .int v13.2.2.1, .int v13.2.2.2.1, .int v13.2.2.2.2.1, .int mT_94])), (aMn, .inl (K 6, 55, .inl v13.2.2.2.2.2)), (aMt, .inl (K 7, 55, .inl nT_94)), (aMk, .inl (K 8, 440, .inl nK_94)), (aMx, .inl (K 11, 60, .inl nX)), (aMd, .inl (K 12, 3, .inl v12.2.2.2))]) (va_runV (As := []) (rest := []) ⟨hx, hb, hml, hown, hts⟩ (c_X8_carries l D K aM aMn aMt aMk aMs aMl aMx aMd mU_94 mB mI mH_94 v12.2.1 v12.2.2.1 mF_94 mR_94 mD_94 mJ_94 mA_94 mT_94 nN_94 v12.2.2.2 v13 hv13 H.size) (cwV 0 hts gX8_commands_X8_carries rfl rfl rfl (by decide +kernel) ⟨(Nat.le_of_ble_eq_true rfl), (Nat.le_of_ble_eq_true rfl)⟩) (prV hE hK hP hD hS hA [0, 1, 5] rfl rfl 6 0 rfl rfl rfl) rfl rfl hl.1 rfl (lv_room (Nat.le_of_ble_eq_true rfl)) dX8_commands_105 ⟨(Nat.le_of_ble_eq_true rfl), (Nat.le_of_ble_eq_true rfl)⟩) hP hD hS hA [0, 1, 5] [2, 3, 4] [3, 4, 0, 1, 2, 5] rfl rfl rfl (by decide) rfl rfl (fun H locs hP hD hS => ?_)
        refine lv_istore_n (lv' := [(3, .int v13.1), (1, .int v12.1), (0, .ref aM), (2, .int y94_2), (4, .int y94_4)]) hx hb dX8_commands_108 rfl hl (by decide) rfl (fun ls hl => ?_)
        refine lv_iload_n hx hb dX8_commands_109 rfl (lv_at hl 0 rfl) ?_
        refine lv_if_eq (tgt := 116) hx hb dX8_commands_110 (by decide) (fun c14 => ?_) (fun c14 => ?_)
        · have hF := oT c14 hF
          refine lv_iload_n hx hb dX8_commands_116 rfl (lv_at hl 0 rfl) ?_
          refine lv_if_eq (tgt := 133) hx hb dX8_commands_117 (by decide) (fun c15 => ?_) (fun c15 => ?_)
          · have hF := oT c15 hF
            refine lv_iconst (v := (0 : Int32)) hx hb dX8_commands_133 (by decide) ?_
            refine lv_istore (lv' := [(4, .int (0 : Int32)), (3, .int v13.1), (1, .int v12.1), (0, .ref aM), (2, .int y94_2)]) hx hb dX8_commands_134 hl (by decide) rfl (fun ls hl => ?_)
            refine lv_goto (tgt := 94) hx hb dX8_commands_136 (by decide) ?_
            exact ih y94_2 v13.1 (0 : Int32) v12.2.1 v12.2.2.1 v13.2.1 v13.2.2.1 v13.2.2.2.1 v13.2.2.2.2.1 v13.2.2.2.2.2 v12.2.2.2 hF _ _ hP hD hS _ (lv_sub hl [3, 4, 1, 0] rfl)
          · have hF := oF c15 hF
            refine lv_aload_n hx hb dX8_commands_120 rfl (lv_at hl 2 rfl) ?_
            refine lv_bipush (v := (59 : Int32)) hx hb dX8_commands_121 (by decide) ?_
            obtain ⟨v16, hv16, hF⟩ := oB hF
            refine call_i (wr := [(aMn, .inl (K 6, 55, .inl v13.2.2.2.2.2)), (aMt, .inl (K 7, 55, .inl nT_94)), (aMk, .inl (K 8, 440, .inl nK_94)), (aMd, .inl (K 12, 3, .inl v12.2.2.2))]) (wn := [(aM, .inr (6, [.ref aMn, .ref aMt, .ref aMk, .int mU_94, .ref aMs, .int mB, .ref aMl, .int mI, .ref aMx, .int mH_94, .int v16.2, .int v12.2.2.1, .ref aMd, .int mF_94, .int v13.2.1, .int v13.2.2.1, .int v13.2.2.2.1, .int v13.2.2.2.2.1, .int mT_94])), (aMn, .inl (K 6, 55, .inl v13.2.2.2.2.2)), (aMt, .inl (K 7, 55, .inl nT_94)), (aMk, .inl (K 8, 440, .inl nK_94)), (aMx, .inl (K 11, 60, .inl nX)), (aMd, .inl (K 12, 3, .inl v12.2.2.2))]) (va_runV (As := [.int (59 : Int32)]) (rest := []) ⟨hx, hb, hml, hown, hts⟩ (c_X8_takes l D K aM aMn aMt aMk aMs aMl aMx aMd mU_94 mB mI mH_94 v12.2.1 v12.2.2.1 mF_94 v13.2.1 v13.2.2.1 v13.2.2.2.1 v13.2.2.2.2.1 mT_94 nX (59 : Int32) v16 hv16 H.size) (cwV 1 hts gX8_commands_X8_takes rfl rfl rfl (by decide +kernel) ⟨(Nat.le_of_ble_eq_true rfl), (Nat.le_of_ble_eq_true rfl)⟩) (prV hE hK hP hD hS hA [0, 4] rfl rfl 6 0 rfl rfl rfl) rfl rfl hl.1 rfl (lv_room (Nat.le_of_ble_eq_true rfl)) dX8_commands_123 ⟨(Nat.le_of_ble_eq_true rfl), (Nat.le_of_ble_eq_true rfl)⟩) hP hD hS hA [0, 4] [1, 2, 3, 5] [4, 0, 1, 2, 5, 3] rfl rfl rfl (by decide) rfl rfl (fun H locs hP hD hS => ?_)
            refine lv_if_eq (tgt := 133) hx hb dX8_commands_126 (by decide) (fun c17 => ?_) (fun c17 => ?_)
            · have hF := oT c17 hF
              refine lv_iconst (v := (0 : Int32)) hx hb dX8_commands_133 (by decide) ?_
              refine lv_istore (lv' := [(4, .int (0 : Int32)), (3, .int v13.1), (1, .int v12.1), (0, .ref aM), (2, .int y94_2)]) hx hb dX8_commands_134 hl (by decide) rfl (fun ls hl => ?_)
              refine lv_goto (tgt := 94) hx hb dX8_commands_136 (by decide) ?_
              exact ih y94_2 v13.1 (0 : Int32) v16.2 v12.2.2.1 v13.2.1 v13.2.2.1 v13.2.2.2.1 v13.2.2.2.2.1 v13.2.2.2.2.2 v12.2.2.2 hF _ _ hP hD hS _ (lv_sub hl [3, 4, 1, 0] rfl)
            · have hF := oF c17 hF
              refine lv_iconst (v := (1 : Int32)) hx hb dX8_commands_129 (by decide) ?_
              refine lv_goto (tgt := 134) hx hb dX8_commands_130 (by decide) ?_
              refine lv_istore (lv' := [(4, .int (1 : Int32)), (3, .int v13.1), (1, .int v12.1), (0, .ref aM), (2, .int y94_2)]) hx hb dX8_commands_134 hl (by decide) rfl (fun ls hl => ?_)
              refine lv_goto (tgt := 94) hx hb dX8_commands_136 (by decide) ?_
              exact ih y94_2 v13.1 (1 : Int32) v16.2 v12.2.2.1 v13.2.1 v13.2.2.1 v13.2.2.2.1 v13.2.2.2.2.1 v13.2.2.2.2.2 v12.2.2.2 hF _ _ hP hD hS _ (lv_sub hl [3, 4, 1, 0] rfl)
        · have hF := oF c14 hF
          refine lv_iinc (v := y94_2 + (1 : Int32)) (lv' := [(2, .int (y94_2 + (1 : Int32))), (3, .int v13.1), (1, .int v12.1), (0, .ref aM), (4, .int y94_4)]) hx hb dX8_commands_113 hl (k := 3) rfl (by first | rfl | decide) (by decide) rfl (fun ls hl => ?_)
          refine lv_iload_n hx hb dX8_commands_116 rfl (lv_at hl 1 rfl) ?_
          refine lv_if_eq (tgt := 133) hx hb dX8_commands_117 (by decide) (fun c18 => ?_) (fun c18 => ?_)
          · have hF := oT c18 hF
            refine lv_iconst (v := (0 : Int32)) hx hb dX8_commands_133 (by decide) ?_
            refine lv_istore (lv' := [(4, .int (0 : Int32)), (2, .int (y94_2 + (1 : Int32))), (3, .int v13.1), (1, .int v12.1), (0, .ref aM)]) hx hb dX8_commands_134 hl (by decide) rfl (fun ls hl => ?_)
            refine lv_goto (tgt := 94) hx hb dX8_commands_136 (by decide) ?_
            exact ih (y94_2 + (1 : Int32)) v13.1 (0 : Int32) v12.2.1 v12.2.2.1 v13.2.1 v13.2.2.1 v13.2.2.2.1 v13.2.2.2.2.1 v13.2.2.2.2.2 v12.2.2.2 hF _ _ hP hD hS _ (lv_sub hl [4, 1, 2, 0] rfl)
          · have hF := oF c18 hF
            refine lv_aload_n hx hb dX8_commands_120 rfl (lv_at hl 3 rfl) ?_
            refine lv_bipush (v := (59 : Int32)) hx hb dX8_commands_121 (by decide) ?_
            obtain ⟨v19, hv19, hF⟩ := oB hF
            refine call_i (wr := [(aMn, .inl (K 6, 55, .inl v13.2.2.2.2.2)), (aMt, .inl (K 7, 55, .inl nT_94)), (aMk, .inl (K 8, 440, .inl nK_94)), (aMd, .inl (K 12, 3, .inl v12.2.2.2))]) (wn := [(aM, .inr (6, [.ref aMn, .ref aMt, .ref aMk, .int mU_94, .ref aMs, .int mB, .ref aMl, .int mI, .ref aMx, .int mH_94, .int v19.2, .int v12.2.2.1, .ref aMd, .int mF_94, .int v13.2.1, .int v13.2.2.1, .int v13.2.2.2.1, .int v13.2.2.2.2.1, .int mT_94])), (aMn, .inl (K 6, 55, .inl v13.2.2.2.2.2)), (aMt, .inl (K 7, 55, .inl nT_94)), (aMk, .inl (K 8, 440, .inl nK_94)), (aMx, .inl (K 11, 60, .inl nX)), (aMd, .inl (K 12, 3, .inl v12.2.2.2))]) (va_runV (As := [.int (59 : Int32)]) (rest := []) ⟨hx, hb, hml, hown, hts⟩ (c_X8_takes l D K aM aMn aMt aMk aMs aMl aMx aMd mU_94 mB mI mH_94 v12.2.1 v12.2.2.1 mF_94 v13.2.1 v13.2.2.1 v13.2.2.2.1 v13.2.2.2.2.1 mT_94 nX (59 : Int32) v19 hv19 H.size) (cwV 1 hts gX8_commands_X8_takes rfl rfl rfl (by decide +kernel) ⟨(Nat.le_of_ble_eq_true rfl), (Nat.le_of_ble_eq_true rfl)⟩) (prV hE hK hP hD hS hA [0, 4] rfl rfl 6 0 rfl rfl rfl) rfl rfl hl.1 rfl (lv_room (Nat.le_of_ble_eq_true rfl)) dX8_commands_123 ⟨(Nat.le_of_ble_eq_true rfl), (Nat.le_of_ble_eq_true rfl)⟩) hP hD hS hA [0, 4] [1, 2, 3, 5] [4, 0, 1, 2, 5, 3] rfl rfl rfl (by decide) rfl rfl (fun H locs hP hD hS => ?_)
            refine lv_if_eq (tgt := 133) hx hb dX8_commands_126 (by decide) (fun c20 => ?_) (fun c20 => ?_)
            · have hF := oT c20 hF
              refine lv_iconst (v := (0 : Int32)) hx hb dX8_commands_133 (by decide) ?_
              refine lv_istore (lv' := [(4, .int (0 : Int32)), (2, .int (y94_2 + (1 : Int32))), (3, .int v13.1), (1, .int v12.1), (0, .ref aM)]) hx hb dX8_commands_134 hl (by decide) rfl (fun ls hl => ?_)
              refine lv_goto (tgt := 94) hx hb dX8_commands_136 (by decide) ?_
              exact ih (y94_2 + (1 : Int32)) v13.1 (0 : Int32) v19.2 v12.2.2.1 v13.2.1 v13.2.2.1 v13.2.2.2.1 v13.2.2.2.2.1 v13.2.2.2.2.2 v12.2.2.2 hF _ _ hP hD hS _ (lv_sub hl [4, 1, 2, 0] rfl)
            · have hF := oF c20 hF
              refine lv_iconst (v := (1 : Int32)) hx hb dX8_commands_129 (by decide) ?_
              refine lv_goto (tgt := 134) hx hb dX8_commands_130 (by decide) ?_
              refine lv_istore (lv' := [(4, .int (1 : Int32)), (2, .int (y94_2 + (1 : Int32))), (3, .int v13.1), (1, .int v12.1), (0, .ref aM)]) hx hb dX8_commands_134 hl (by decide) rfl (fun ls hl => ?_)
              refine lv_goto (tgt := 94) hx hb dX8_commands_136 (by decide) ?_
              exact ih (y94_2 + (1 : Int32)) v13.1 (1 : Int32) v19.2 v12.2.2.1 v13.2.1 v13.2.2.1 v13.2.2.2.1 v13.2.2.2.2.1 v13.2.2.2.2.2 v12.2.2.2 hF _ _ hP hD hS _ (lv_sub hl [4, 1, 2, 0] rfl)
  have loop_19 : ∀ (mU_19 : Int32) (mH_19 : Int32) (mF_19 : Int32) (mR_19 : Int32) (mD_19 : Int32) (mJ_19 : Int32) (mA_19 : Int32) (mT_19 : Int32) (nN_19 : Nat → Int32) (nT_19 : Nat → Int32) (nK_19 : Nat → Int32) (n : Nat) (y19_1 : Int32) (mQ_19 : Int32) (mW_19 : Int32) (nD_19 : Nat → Int32), f_X8_commands_L19 nX mU_19 mH_19 mF_19 mR_19 mD_19 mJ_19 mA_19 mT_19 nN_19 nT_19 nK_19 n y19_1 mQ_19 mW_19 nD_19 = some v → ∀ (H : Heap) (locs : List Loc), va_P D vwC7 [(aM, .inr (6, [.ref aMn, .ref aMt, .ref aMk, .int mU_19, .ref aMs, .int mB, .ref aMl, .int mI, .ref aMx, .int mH_19, .int mQ_19, .int mW_19, .ref aMd, .int mF_19, .int mR_19, .int mD_19, .int mJ_19, .int mA_19, .int mT_19])), (aMn, .inl (K 6, 55, .inl nN_19)), (aMt, .inl (K 7, 55, .inl nT_19)), (aMk, .inl (K 8, 440, .inl nK_19)), (aMx, .inl (K 11, 60, .inl nX)), (aMd, .inl (K 12, 3, .inl nD_19))] H → va_D A [(aM, .inr (6, [.ref aMn, .ref aMt, .ref aMk, .int mU_19, .ref aMs, .int mB, .ref aMl, .int mI, .ref aMx, .int mH_19, .int mQ_19, .int mW_19, .ref aMd, .int mF_19, .int mR_19, .int mD_19, .int mJ_19, .int mA_19, .int mT_19])), (aMn, .inl (K 6, 55, .inl nN_19)), (aMt, .inl (K 7, 55, .inl nT_19)), (aMk, .inl (K 8, 440, .inl nK_19)), (aMx, .inl (K 11, 60, .inl nX)), (aMd, .inl (K 12, 3, .inl nD_19))] → va_S A s.heap H locs → ∀ ls : Array Slot, lv_has ls 6 [(0, .ref aM), (1, .int y19_1)] → W p l e RM_X8_commands s m args below meth c H locs 0 0 (MQ below (QI D (TY K) (wf_X8_commands K aM aMn aMt aMk aMs aMl aMx aMd mB mI nX) v A) args s MC_X8_commands MS_X8_commands A) (F0 m 19 ls []) := by
    intro mU_19 mH_19 mF_19 mR_19 mD_19 mJ_19 mA_19 mT_19 nN_19 nT_19 nK_19 n
    induction n with
    | zero =>
      intro y19_1 mQ_19 mW_19 nD_19 hF
      exact nomatch hF
    | succ n ih =>
      intro y19_1 mQ_19 mW_19 nD_19 hF H locs hP hD hS ls hl
      rw [f_X8_commands_L19.eq_2] at hF
      refine lv_iload_n hx hb dX8_commands_19 rfl (lv_at hl 1 rfl) ?_
      refine lv_if_eq (tgt := 59) hx hb dX8_commands_20 (by decide) (fun c3 => ?_) (fun c3 => ?_)
      · have hF := oT c3 hF
        refine lv_iload_n hx hb dX8_commands_59 rfl (lv_at hl 1 rfl) ?_
        refine lv_if_ne (tgt := 82) hx hb dX8_commands_60 (by decide) (fun c4 => ?_) (fun c4 => ?_)
        · have hF := oF c4 hF
          refine lv_aload_n hx hb dX8_commands_82 rfl (lv_at hl 0 rfl) ?_
          refine lv_iconst (v := (0 : Int32)) hx hb dX8_commands_83 (by decide) ?_
          refine va_put (D := D) (ci := 6) (v := .int (0 : Int32)) (ty := .int) (C := RX8) (T := TX8) (N := 19) hx hb hts (fun _ h => List.mem_cons_of_mem _ (List.mem_append_left _ (List.mem_append_left _ (List.mem_append_left _ (List.mem_append_right _ h))))) tyX8 tyX8_ok nmX8 hown hK hP hD hS 0 rfl rfl 10 (by decide) (hts (.fieldLink RX8 179 "BarometerClubModel" "at" "I") (List.mem_of_getElem? (i := 1) rfl)) (fun _ h9 => h9) rfl (by decide +kernel) rfl rfl (Nat.le_of_ble_eq_true rfl) dX8_commands_84 (fun H locs hP hD hS => ?_)
          have hP : va_P D vwC7 [(aM, .inr (6, [.ref aMn, .ref aMt, .ref aMk, .int mU_19, .ref aMs, .int mB, .ref aMl, .int mI, .ref aMx, .int mH_19, .int (0 : Int32), .int mW_19, .ref aMd, .int mF_19, .int mR_19, .int mD_19, .int mJ_19, .int mA_19, .int mT_19])), (aMn, .inl (K 6, 55, .inl nN_19)), (aMt, .inl (K 7, 55, .inl nT_19)), (aMk, .inl (K 8, 440, .inl nK_19)), (aMx, .inl (K 11, 60, .inl nX)), (aMd, .inl (K 12, 3, .inl nD_19))] H := hP
          have hD : va_D A [(aM, .inr (6, [.ref aMn, .ref aMt, .ref aMk, .int mU_19, .ref aMs, .int mB, .ref aMl, .int mI, .ref aMx, .int mH_19, .int (0 : Int32), .int mW_19, .ref aMd, .int mF_19, .int mR_19, .int mD_19, .int mJ_19, .int mA_19, .int mT_19])), (aMn, .inl (K 6, 55, .inl nN_19)), (aMt, .inl (K 7, 55, .inl nT_19)), (aMk, .inl (K 8, 440, .inl nK_19)), (aMx, .inl (K 11, 60, .inl nX)), (aMd, .inl (K 12, 3, .inl nD_19))] := hD
          refine lv_iconst (v := (0 : Int32)) hx hb dX8_commands_87 (by decide) ?_
          refine lv_istore_n (lv' := [(2, .int (0 : Int32)), (0, .ref aM), (1, .int y19_1)]) hx hb dX8_commands_88 rfl hl (by decide) rfl (fun ls hl => ?_)
          refine lv_iconst (v := (1 : Int32)) hx hb dX8_commands_89 (by decide) ?_
          refine lv_istore_n (lv' := [(3, .int (1 : Int32)), (2, .int (0 : Int32)), (0, .ref aM), (1, .int y19_1)]) hx hb dX8_commands_90 rfl hl (by decide) rfl (fun ls hl => ?_)
          refine lv_iconst (v := (1 : Int32)) hx hb dX8_commands_91 (by decide) ?_
          refine lv_istore (lv' := [(4, .int (1 : Int32)), (3, .int (1 : Int32)), (2, .int (0 : Int32)), (0, .ref aM), (1, .int y19_1)]) hx hb dX8_commands_92 hl (by decide) rfl (fun ls hl => ?_)
          exact loop_94 mU_19 mH_19 mF_19 mT_19 nT_19 nK_19 FU (0 : Int32) (1 : Int32) (1 : Int32) (0 : Int32) mW_19 mR_19 mD_19 mJ_19 mA_19 nN_19 nD_19 hF _ _ hP hD hS _ (lv_sub hl [3, 2, 1, 0] rfl)
        · have hF := oT c4 hF
          refine lv_aload_n hx hb dX8_commands_63 rfl (lv_at hl 0 rfl) ?_
          refine lv_aload_n hx hb dX8_commands_64 rfl (lv_at hl 0 rfl) ?_
          refine va_get (D := D) (ci := 6) (v := .int mQ_19) (C := RX8) (T := TX8) (N := 19) hx hb hts (fun _ h => List.mem_cons_of_mem _ (List.mem_append_left _ (List.mem_append_left _ (List.mem_append_left _ (List.mem_append_right _ h))))) hown hK hP 0 rfl rfl 10 (by decide) (hts (.fieldLink RX8 179 "BarometerClubModel" "at" "I") (List.mem_of_getElem? (i := 1) rfl)) (fun _ h9 => h9) rfl dX8_commands_65 ?_
          refine va_put (D := D) (ci := 6) (v := .int mQ_19) (ty := .int) (C := RX8) (T := TX8) (N := 19) hx hb hts (fun _ h => List.mem_cons_of_mem _ (List.mem_append_left _ (List.mem_append_left _ (List.mem_append_left _ (List.mem_append_right _ h))))) tyX8 tyX8_ok nmX8 hown hK hP hD hS 0 rfl rfl 13 (by decide) (hts (.fieldLink RX8 32 "BarometerClubModel" "fault" "I") (List.mem_of_getElem? (i := 2) rfl)) (fun _ h9 => h9) rfl (by decide +kernel) rfl rfl (Nat.le_of_ble_eq_true rfl) dX8_commands_68 (fun H locs hP hD hS => ?_)
          have hP : va_P D vwC7 [(aM, .inr (6, [.ref aMn, .ref aMt, .ref aMk, .int mU_19, .ref aMs, .int mB, .ref aMl, .int mI, .ref aMx, .int mH_19, .int mQ_19, .int mW_19, .ref aMd, .int mQ_19, .int mR_19, .int mD_19, .int mJ_19, .int mA_19, .int mT_19])), (aMn, .inl (K 6, 55, .inl nN_19)), (aMt, .inl (K 7, 55, .inl nT_19)), (aMk, .inl (K 8, 440, .inl nK_19)), (aMx, .inl (K 11, 60, .inl nX)), (aMd, .inl (K 12, 3, .inl nD_19))] H := hP
          have hD : va_D A [(aM, .inr (6, [.ref aMn, .ref aMt, .ref aMk, .int mU_19, .ref aMs, .int mB, .ref aMl, .int mI, .ref aMx, .int mH_19, .int mQ_19, .int mW_19, .ref aMd, .int mQ_19, .int mR_19, .int mD_19, .int mJ_19, .int mA_19, .int mT_19])), (aMn, .inl (K 6, 55, .inl nN_19)), (aMt, .inl (K 7, 55, .inl nT_19)), (aMk, .inl (K 8, 440, .inl nK_19)), (aMx, .inl (K 11, 60, .inl nX)), (aMd, .inl (K 12, 3, .inl nD_19))] := hD
          refine lv_aload_n hx hb dX8_commands_71 rfl (lv_at hl 0 rfl) ?_
          refine lv_iconst (v := (0 : Int32)) hx hb dX8_commands_72 (by decide) ?_
          refine va_put (D := D) (ci := 6) (v := .int (0 : Int32)) (ty := .int) (C := RX8) (T := TX8) (N := 19) hx hb hts (fun _ h => List.mem_cons_of_mem _ (List.mem_append_left _ (List.mem_append_left _ (List.mem_append_left _ (List.mem_append_right _ h))))) tyX8 tyX8_ok nmX8 hown hK hP hD hS 0 rfl rfl 9 (by decide) (hts (.fieldLink RX8 176 "BarometerClubModel" "length" "I") (List.mem_of_getElem? (i := 3) rfl)) (fun _ h9 => h9) rfl (by decide +kernel) rfl rfl (Nat.le_of_ble_eq_true rfl) dX8_commands_73 (fun H locs hP hD hS => ?_)
          have hP : va_P D vwC7 [(aM, .inr (6, [.ref aMn, .ref aMt, .ref aMk, .int mU_19, .ref aMs, .int mB, .ref aMl, .int mI, .ref aMx, .int (0 : Int32), .int mQ_19, .int mW_19, .ref aMd, .int mQ_19, .int mR_19, .int mD_19, .int mJ_19, .int mA_19, .int mT_19])), (aMn, .inl (K 6, 55, .inl nN_19)), (aMt, .inl (K 7, 55, .inl nT_19)), (aMk, .inl (K 8, 440, .inl nK_19)), (aMx, .inl (K 11, 60, .inl nX)), (aMd, .inl (K 12, 3, .inl nD_19))] H := hP
          have hD : va_D A [(aM, .inr (6, [.ref aMn, .ref aMt, .ref aMk, .int mU_19, .ref aMs, .int mB, .ref aMl, .int mI, .ref aMx, .int (0 : Int32), .int mQ_19, .int mW_19, .ref aMd, .int mQ_19, .int mR_19, .int mD_19, .int mJ_19, .int mA_19, .int mT_19])), (aMn, .inl (K 6, 55, .inl nN_19)), (aMt, .inl (K 7, 55, .inl nT_19)), (aMk, .inl (K 8, 440, .inl nK_19)), (aMx, .inl (K 11, 60, .inl nX)), (aMd, .inl (K 12, 3, .inl nD_19))] := hD
          refine lv_aload_n hx hb dX8_commands_76 rfl (lv_at hl 0 rfl) ?_
          refine lv_iconst (v := (1 : Int32)) hx hb dX8_commands_77 (by decide) ?_
          obtain ⟨v21, hv21, hF⟩ := oB hF
          refine call_i (wr := [(aMn, .inl (K 6, 55, .inl nN_19)), (aMt, .inl (K 7, 55, .inl nT_19)), (aMk, .inl (K 8, 440, .inl nK_19)), (aMx, .inl (K 11, 60, .inl nX)), (aMd, .inl (K 12, 3, .inl nD_19))]) (wn := [(aM, .inr (6, [.ref aMn, .ref aMt, .ref aMk, .int mU_19, .ref aMs, .int mB, .ref aMl, .int mI, .ref aMx, .int (0 : Int32), .int mQ_19, .int mW_19, .ref aMd, .int mQ_19, .int mR_19, .int mD_19, .int mJ_19, .int mA_19, .int v21.2])), (aMn, .inl (K 6, 55, .inl nN_19)), (aMt, .inl (K 7, 55, .inl nT_19)), (aMk, .inl (K 8, 440, .inl nK_19)), (aMx, .inl (K 11, 60, .inl nX)), (aMd, .inl (K 12, 3, .inl nD_19))]) (va_runV (As := [.int (1 : Int32)]) (rest := []) ⟨hx, hb, hml, hown, hts⟩ (c_X8_raises l D K aM aMn aMt aMk aMs aMl aMx aMd mU_19 mB mI (0 : Int32) mQ_19 mW_19 mQ_19 mR_19 mD_19 mJ_19 mA_19 mT_19 (1 : Int32) v21 hv21 H.size) (cwV 1 hts gX8_commands_X8_raises rfl rfl rfl (by decide +kernel) ⟨(Nat.le_of_ble_eq_true rfl), (Nat.le_of_ble_eq_true rfl)⟩) (prV hE hK hP hD hS hA [0] rfl rfl 6 0 rfl rfl rfl) rfl rfl hl.1 rfl (lv_room (Nat.le_of_ble_eq_true rfl)) dX8_commands_78 ⟨(Nat.le_of_ble_eq_true rfl), (Nat.le_of_ble_eq_true rfl)⟩) hP hD hS hA [0] [1, 2, 3, 4, 5] [5, 0, 1, 2, 3, 4] rfl rfl rfl (by decide) rfl rfl (fun H locs hP hD hS => ?_)
          exact fin_i (u := (v21.1, (mU_19, (0 : Int32), mQ_19, mW_19, mQ_19, mR_19, mD_19, mJ_19, mA_19, v21.2, nN_19, nT_19, nK_19, nD_19))) hF hx hb hr hlocks hK hP hD hS (Nat.le_of_ble_eq_true rfl) (Nat.le_of_ble_eq_true rfl) dX8_commands_81
      · have hF := oF c3 hF
        refine lv_aload_n hx hb dX8_commands_23 rfl (lv_at hl 0 rfl) ?_
        refine va_get (D := D) (ci := 6) (v := .int mQ_19) (C := RX8) (T := TX8) (N := 19) hx hb hts (fun _ h => List.mem_cons_of_mem _ (List.mem_append_left _ (List.mem_append_left _ (List.mem_append_left _ (List.mem_append_right _ h))))) hown hK hP 0 rfl rfl 10 (by decide) (hts (.fieldLink RX8 179 "BarometerClubModel" "at" "I") (List.mem_of_getElem? (i := 1) rfl)) (fun _ h9 => h9) rfl dX8_commands_24 ?_
        refine lv_aload_n hx hb dX8_commands_27 rfl (lv_at hl 0 rfl) ?_
        refine va_get (D := D) (ci := 6) (v := .int mH_19) (C := RX8) (T := TX8) (N := 19) hx hb hts (fun _ h => List.mem_cons_of_mem _ (List.mem_append_left _ (List.mem_append_left _ (List.mem_append_left _ (List.mem_append_right _ h))))) hown hK hP 0 rfl rfl 9 (by decide) (hts (.fieldLink RX8 176 "BarometerClubModel" "length" "I") (List.mem_of_getElem? (i := 3) rfl)) (fun _ h9 => h9) rfl dX8_commands_28 ?_
        refine lv_icmp_ge (tgt := 59) hx hb dX8_commands_31 (by decide) (fun c22 => ?_) (fun c22 => ?_)
        · have hF := oT c22 hF
          refine lv_iload_n hx hb dX8_commands_59 rfl (lv_at hl 1 rfl) ?_
          refine lv_if_ne (tgt := 82) hx hb dX8_commands_60 (by decide) (fun c23 => ?_) (fun c23 => ?_)
          · have hF := oF c23 hF
            refine lv_aload_n hx hb dX8_commands_82 rfl (lv_at hl 0 rfl) ?_
            refine lv_iconst (v := (0 : Int32)) hx hb dX8_commands_83 (by decide) ?_
            refine va_put (D := D) (ci := 6) (v := .int (0 : Int32)) (ty := .int) (C := RX8) (T := TX8) (N := 19) hx hb hts (fun _ h => List.mem_cons_of_mem _ (List.mem_append_left _ (List.mem_append_left _ (List.mem_append_left _ (List.mem_append_right _ h))))) tyX8 tyX8_ok nmX8 hown hK hP hD hS 0 rfl rfl 10 (by decide) (hts (.fieldLink RX8 179 "BarometerClubModel" "at" "I") (List.mem_of_getElem? (i := 1) rfl)) (fun _ h9 => h9) rfl (by decide +kernel) rfl rfl (Nat.le_of_ble_eq_true rfl) dX8_commands_84 (fun H locs hP hD hS => ?_)
            have hP : va_P D vwC7 [(aM, .inr (6, [.ref aMn, .ref aMt, .ref aMk, .int mU_19, .ref aMs, .int mB, .ref aMl, .int mI, .ref aMx, .int mH_19, .int (0 : Int32), .int mW_19, .ref aMd, .int mF_19, .int mR_19, .int mD_19, .int mJ_19, .int mA_19, .int mT_19])), (aMn, .inl (K 6, 55, .inl nN_19)), (aMt, .inl (K 7, 55, .inl nT_19)), (aMk, .inl (K 8, 440, .inl nK_19)), (aMx, .inl (K 11, 60, .inl nX)), (aMd, .inl (K 12, 3, .inl nD_19))] H := hP
            have hD : va_D A [(aM, .inr (6, [.ref aMn, .ref aMt, .ref aMk, .int mU_19, .ref aMs, .int mB, .ref aMl, .int mI, .ref aMx, .int mH_19, .int (0 : Int32), .int mW_19, .ref aMd, .int mF_19, .int mR_19, .int mD_19, .int mJ_19, .int mA_19, .int mT_19])), (aMn, .inl (K 6, 55, .inl nN_19)), (aMt, .inl (K 7, 55, .inl nT_19)), (aMk, .inl (K 8, 440, .inl nK_19)), (aMx, .inl (K 11, 60, .inl nX)), (aMd, .inl (K 12, 3, .inl nD_19))] := hD
            refine lv_iconst (v := (0 : Int32)) hx hb dX8_commands_87 (by decide) ?_
            refine lv_istore_n (lv' := [(2, .int (0 : Int32)), (0, .ref aM), (1, .int y19_1)]) hx hb dX8_commands_88 rfl hl (by decide) rfl (fun ls hl => ?_)
            refine lv_iconst (v := (1 : Int32)) hx hb dX8_commands_89 (by decide) ?_
            refine lv_istore_n (lv' := [(3, .int (1 : Int32)), (2, .int (0 : Int32)), (0, .ref aM), (1, .int y19_1)]) hx hb dX8_commands_90 rfl hl (by decide) rfl (fun ls hl => ?_)
            refine lv_iconst (v := (1 : Int32)) hx hb dX8_commands_91 (by decide) ?_
            refine lv_istore (lv' := [(4, .int (1 : Int32)), (3, .int (1 : Int32)), (2, .int (0 : Int32)), (0, .ref aM), (1, .int y19_1)]) hx hb dX8_commands_92 hl (by decide) rfl (fun ls hl => ?_)
            exact loop_94 mU_19 mH_19 mF_19 mT_19 nT_19 nK_19 FU (0 : Int32) (1 : Int32) (1 : Int32) (0 : Int32) mW_19 mR_19 mD_19 mJ_19 mA_19 nN_19 nD_19 hF _ _ hP hD hS _ (lv_sub hl [3, 2, 1, 0] rfl)
          · have hF := oT c23 hF
            refine lv_aload_n hx hb dX8_commands_63 rfl (lv_at hl 0 rfl) ?_
            refine lv_aload_n hx hb dX8_commands_64 rfl (lv_at hl 0 rfl) ?_
            refine va_get (D := D) (ci := 6) (v := .int mQ_19) (C := RX8) (T := TX8) (N := 19) hx hb hts (fun _ h => List.mem_cons_of_mem _ (List.mem_append_left _ (List.mem_append_left _ (List.mem_append_left _ (List.mem_append_right _ h))))) hown hK hP 0 rfl rfl 10 (by decide) (hts (.fieldLink RX8 179 "BarometerClubModel" "at" "I") (List.mem_of_getElem? (i := 1) rfl)) (fun _ h9 => h9) rfl dX8_commands_65 ?_
            refine va_put (D := D) (ci := 6) (v := .int mQ_19) (ty := .int) (C := RX8) (T := TX8) (N := 19) hx hb hts (fun _ h => List.mem_cons_of_mem _ (List.mem_append_left _ (List.mem_append_left _ (List.mem_append_left _ (List.mem_append_right _ h))))) tyX8 tyX8_ok nmX8 hown hK hP hD hS 0 rfl rfl 13 (by decide) (hts (.fieldLink RX8 32 "BarometerClubModel" "fault" "I") (List.mem_of_getElem? (i := 2) rfl)) (fun _ h9 => h9) rfl (by decide +kernel) rfl rfl (Nat.le_of_ble_eq_true rfl) dX8_commands_68 (fun H locs hP hD hS => ?_)
            have hP : va_P D vwC7 [(aM, .inr (6, [.ref aMn, .ref aMt, .ref aMk, .int mU_19, .ref aMs, .int mB, .ref aMl, .int mI, .ref aMx, .int mH_19, .int mQ_19, .int mW_19, .ref aMd, .int mQ_19, .int mR_19, .int mD_19, .int mJ_19, .int mA_19, .int mT_19])), (aMn, .inl (K 6, 55, .inl nN_19)), (aMt, .inl (K 7, 55, .inl nT_19)), (aMk, .inl (K 8, 440, .inl nK_19)), (aMx, .inl (K 11, 60, .inl nX)), (aMd, .inl (K 12, 3, .inl nD_19))] H := hP
            have hD : va_D A [(aM, .inr (6, [.ref aMn, .ref aMt, .ref aMk, .int mU_19, .ref aMs, .int mB, .ref aMl, .int mI, .ref aMx, .int mH_19, .int mQ_19, .int mW_19, .ref aMd, .int mQ_19, .int mR_19, .int mD_19, .int mJ_19, .int mA_19, .int mT_19])), (aMn, .inl (K 6, 55, .inl nN_19)), (aMt, .inl (K 7, 55, .inl nT_19)), (aMk, .inl (K 8, 440, .inl nK_19)), (aMx, .inl (K 11, 60, .inl nX)), (aMd, .inl (K 12, 3, .inl nD_19))] := hD
            refine lv_aload_n hx hb dX8_commands_71 rfl (lv_at hl 0 rfl) ?_
            refine lv_iconst (v := (0 : Int32)) hx hb dX8_commands_72 (by decide) ?_
            refine va_put (D := D) (ci := 6) (v := .int (0 : Int32)) (ty := .int) (C := RX8) (T := TX8) (N := 19) hx hb hts (fun _ h => List.mem_cons_of_mem _ (List.mem_append_left _ (List.mem_append_left _ (List.mem_append_left _ (List.mem_append_right _ h))))) tyX8 tyX8_ok nmX8 hown hK hP hD hS 0 rfl rfl 9 (by decide) (hts (.fieldLink RX8 176 "BarometerClubModel" "length" "I") (List.mem_of_getElem? (i := 3) rfl)) (fun _ h9 => h9) rfl (by decide +kernel) rfl rfl (Nat.le_of_ble_eq_true rfl) dX8_commands_73 (fun H locs hP hD hS => ?_)
            have hP : va_P D vwC7 [(aM, .inr (6, [.ref aMn, .ref aMt, .ref aMk, .int mU_19, .ref aMs, .int mB, .ref aMl, .int mI, .ref aMx, .int (0 : Int32), .int mQ_19, .int mW_19, .ref aMd, .int mQ_19, .int mR_19, .int mD_19, .int mJ_19, .int mA_19, .int mT_19])), (aMn, .inl (K 6, 55, .inl nN_19)), (aMt, .inl (K 7, 55, .inl nT_19)), (aMk, .inl (K 8, 440, .inl nK_19)), (aMx, .inl (K 11, 60, .inl nX)), (aMd, .inl (K 12, 3, .inl nD_19))] H := hP
            have hD : va_D A [(aM, .inr (6, [.ref aMn, .ref aMt, .ref aMk, .int mU_19, .ref aMs, .int mB, .ref aMl, .int mI, .ref aMx, .int (0 : Int32), .int mQ_19, .int mW_19, .ref aMd, .int mQ_19, .int mR_19, .int mD_19, .int mJ_19, .int mA_19, .int mT_19])), (aMn, .inl (K 6, 55, .inl nN_19)), (aMt, .inl (K 7, 55, .inl nT_19)), (aMk, .inl (K 8, 440, .inl nK_19)), (aMx, .inl (K 11, 60, .inl nX)), (aMd, .inl (K 12, 3, .inl nD_19))] := hD
            refine lv_aload_n hx hb dX8_commands_76 rfl (lv_at hl 0 rfl) ?_
            refine lv_iconst (v := (1 : Int32)) hx hb dX8_commands_77 (by decide) ?_
            obtain ⟨v24, hv24, hF⟩ := oB hF
            refine call_i (wr := [(aMn, .inl (K 6, 55, .inl nN_19)), (aMt, .inl (K 7, 55, .inl nT_19)), (aMk, .inl (K 8, 440, .inl nK_19)), (aMx, .inl (K 11, 60, .inl nX)), (aMd, .inl (K 12, 3, .inl nD_19))]) (wn := [(aM, .inr (6, [.ref aMn, .ref aMt, .ref aMk, .int mU_19, .ref aMs, .int mB, .ref aMl, .int mI, .ref aMx, .int (0 : Int32), .int mQ_19, .int mW_19, .ref aMd, .int mQ_19, .int mR_19, .int mD_19, .int mJ_19, .int mA_19, .int v24.2])), (aMn, .inl (K 6, 55, .inl nN_19)), (aMt, .inl (K 7, 55, .inl nT_19)), (aMk, .inl (K 8, 440, .inl nK_19)), (aMx, .inl (K 11, 60, .inl nX)), (aMd, .inl (K 12, 3, .inl nD_19))]) (va_runV (As := [.int (1 : Int32)]) (rest := []) ⟨hx, hb, hml, hown, hts⟩ (c_X8_raises l D K aM aMn aMt aMk aMs aMl aMx aMd mU_19 mB mI (0 : Int32) mQ_19 mW_19 mQ_19 mR_19 mD_19 mJ_19 mA_19 mT_19 (1 : Int32) v24 hv24 H.size) (cwV 1 hts gX8_commands_X8_raises rfl rfl rfl (by decide +kernel) ⟨(Nat.le_of_ble_eq_true rfl), (Nat.le_of_ble_eq_true rfl)⟩) (prV hE hK hP hD hS hA [0] rfl rfl 6 0 rfl rfl rfl) rfl rfl hl.1 rfl (lv_room (Nat.le_of_ble_eq_true rfl)) dX8_commands_78 ⟨(Nat.le_of_ble_eq_true rfl), (Nat.le_of_ble_eq_true rfl)⟩) hP hD hS hA [0] [1, 2, 3, 4, 5] [5, 0, 1, 2, 3, 4] rfl rfl rfl (by decide) rfl rfl (fun H locs hP hD hS => ?_)
            exact fin_i (u := (v24.1, (mU_19, (0 : Int32), mQ_19, mW_19, mQ_19, mR_19, mD_19, mJ_19, mA_19, v24.2, nN_19, nT_19, nK_19, nD_19))) hF hx hb hr hlocks hK hP hD hS (Nat.le_of_ble_eq_true rfl) (Nat.le_of_ble_eq_true rfl) dX8_commands_81
        · have hF := oF c22 hF
          refine lv_aload_n hx hb dX8_commands_34 rfl (lv_at hl 0 rfl) ?_
          refine lv_bipush (v := (59 : Int32)) hx hb dX8_commands_35 (by decide) ?_
          obtain ⟨v25, hv25, hF⟩ := oB hF
          refine call_i (wr := [(aMn, .inl (K 6, 55, .inl nN_19)), (aMt, .inl (K 7, 55, .inl nT_19)), (aMk, .inl (K 8, 440, .inl nK_19)), (aMd, .inl (K 12, 3, .inl nD_19))]) (wn := [(aM, .inr (6, [.ref aMn, .ref aMt, .ref aMk, .int mU_19, .ref aMs, .int mB, .ref aMl, .int mI, .ref aMx, .int mH_19, .int v25.2, .int mW_19, .ref aMd, .int mF_19, .int mR_19, .int mD_19, .int mJ_19, .int mA_19, .int mT_19])), (aMn, .inl (K 6, 55, .inl nN_19)), (aMt, .inl (K 7, 55, .inl nT_19)), (aMk, .inl (K 8, 440, .inl nK_19)), (aMx, .inl (K 11, 60, .inl nX)), (aMd, .inl (K 12, 3, .inl nD_19))]) (va_runV (As := [.int (59 : Int32)]) (rest := []) ⟨hx, hb, hml, hown, hts⟩ (c_X8_takes l D K aM aMn aMt aMk aMs aMl aMx aMd mU_19 mB mI mH_19 mQ_19 mW_19 mF_19 mR_19 mD_19 mJ_19 mA_19 mT_19 nX (59 : Int32) v25 hv25 H.size) (cwV 1 hts gX8_commands_X8_takes rfl rfl rfl (by decide +kernel) ⟨(Nat.le_of_ble_eq_true rfl), (Nat.le_of_ble_eq_true rfl)⟩) (prV hE hK hP hD hS hA [0, 4] rfl rfl 6 0 rfl rfl rfl) rfl rfl hl.1 rfl (lv_room (Nat.le_of_ble_eq_true rfl)) dX8_commands_37 ⟨(Nat.le_of_ble_eq_true rfl), (Nat.le_of_ble_eq_true rfl)⟩) hP hD hS hA [0, 4] [1, 2, 3, 5] [4, 0, 1, 2, 5, 3] rfl rfl rfl (by decide) rfl rfl (fun H locs hP hD hS => ?_)
          refine lv_if_eq (tgt := 54) hx hb dX8_commands_40 (by decide) (fun c26 => ?_) (fun c26 => ?_)
          · have hF := oT c26 hF
            refine lv_iconst (v := (0 : Int32)) hx hb dX8_commands_54 (by decide) ?_
            refine lv_istore_n (lv' := [(1, .int (0 : Int32)), (0, .ref aM)]) hx hb dX8_commands_55 rfl hl (by decide) rfl (fun ls hl => ?_)
            refine lv_goto (tgt := 19) hx hb dX8_commands_56 (by decide) ?_
            exact ih (0 : Int32) v25.2 mW_19 nD_19 hF _ _ hP hD hS _ (lv_sub hl [1, 0] rfl)
          · have hF := oF c26 hF
            refine lv_aload_n hx hb dX8_commands_43 rfl (lv_at hl 0 rfl) ?_
            obtain ⟨v27, hv27, hF⟩ := oB hF
            refine call_i (wr := [(aMn, .inl (K 6, 55, .inl nN_19)), (aMt, .inl (K 7, 55, .inl nT_19)), (aMk, .inl (K 8, 440, .inl nK_19))]) (wn := [(aM, .inr (6, [.ref aMn, .ref aMt, .ref aMk, .int mU_19, .ref aMs, .int mB, .ref aMl, .int mI, .ref aMx, .int mH_19, .int v27.2.1, .int v27.2.2.1, .ref aMd, .int mF_19, .int mR_19, .int mD_19, .int mJ_19, .int mA_19, .int mT_19])), (aMn, .inl (K 6, 55, .inl nN_19)), (aMt, .inl (K 7, 55, .inl nT_19)), (aMk, .inl (K 8, 440, .inl nK_19)), (aMx, .inl (K 11, 60, .inl nX)), (aMd, .inl (K 12, 3, .inl v27.2.2.2))]) (va_runV (As := []) (rest := []) ⟨hx, hb, hml, hown, hts⟩ (c_X8_isCommand l D K aM aMn aMt aMk aMs aMl aMx aMd mU_19 mB mI mH_19 v25.2 mW_19 mF_19 mR_19 mD_19 mJ_19 mA_19 mT_19 nX nD_19 v27 hv27 H.size) (cwV 0 hts gX8_commands_X8_isCommand rfl rfl rfl (by decide +kernel) ⟨(Nat.le_of_ble_eq_true rfl), (Nat.le_of_ble_eq_true rfl)⟩) (prV hE hK hP hD hS hA [0, 4, 5] rfl rfl 6 0 rfl rfl rfl) rfl rfl hl.1 rfl (lv_room (Nat.le_of_ble_eq_true rfl)) dX8_commands_44 ⟨(Nat.le_of_ble_eq_true rfl), (Nat.le_of_ble_eq_true rfl)⟩) hP hD hS hA [0, 4, 5] [1, 2, 3] [3, 0, 1, 2, 4, 5] rfl rfl rfl (by decide) rfl rfl (fun H locs hP hD hS => ?_)
            refine lv_if_eq (tgt := 54) hx hb dX8_commands_47 (by decide) (fun c28 => ?_) (fun c28 => ?_)
            · have hF := oT c28 hF
              refine lv_iconst (v := (0 : Int32)) hx hb dX8_commands_54 (by decide) ?_
              refine lv_istore_n (lv' := [(1, .int (0 : Int32)), (0, .ref aM)]) hx hb dX8_commands_55 rfl hl (by decide) rfl (fun ls hl => ?_)
              refine lv_goto (tgt := 19) hx hb dX8_commands_56 (by decide) ?_
              exact ih (0 : Int32) v27.2.1 v27.2.2.1 v27.2.2.2 hF _ _ hP hD hS _ (lv_sub hl [1, 0] rfl)
            · have hF := oF c28 hF
              refine lv_iconst (v := (1 : Int32)) hx hb dX8_commands_50 (by decide) ?_
              refine lv_goto (tgt := 55) hx hb dX8_commands_51 (by decide) ?_
              refine lv_istore_n (lv' := [(1, .int (1 : Int32)), (0, .ref aM)]) hx hb dX8_commands_55 rfl hl (by decide) rfl (fun ls hl => ?_)
              refine lv_goto (tgt := 19) hx hb dX8_commands_56 (by decide) ?_
              exact ih (1 : Int32) v27.2.1 v27.2.2.1 v27.2.2.2 hF _ _ hP hD hS _ (lv_sub hl [1, 0] rfl)
  rw [f_X8_commands] at hF
  refine lv_aload_n hx hb dX8_commands_0 rfl (lv_at hl 0 rfl) ?_
  obtain ⟨v1, hv1, hF⟩ := oB hF
  refine call_v (wr := [(aMk, .inl (K 8, 440, .inl nK)), (aMx, .inl (K 11, 60, .inl nX)), (aMd, .inl (K 12, 3, .inl nD))]) (wn := [(aM, .inr (6, [.ref aMn, .ref aMt, .ref aMk, .int mU, .ref aMs, .int mB, .ref aMl, .int mI, .ref aMx, .int mH, .int mQ, .int mW, .ref aMd, .int mF, .int mR, .int mD, .int mJ, .int mA, .int v1.1])), (aMn, .inl (K 6, 55, .inl nN)), (aMt, .inl (K 7, 55, .inl v1.2)), (aMk, .inl (K 8, 440, .inl nK)), (aMx, .inl (K 11, 60, .inl nX)), (aMd, .inl (K 12, 3, .inl nD))]) (va_runV (As := []) (rest := []) ⟨hx, hb, hml, hown, hts⟩ (c_X8_tries l D K aM aMn aMt aMk aMs aMl aMx aMd mU mB mI mH mQ mW mF mR mD mJ mA mT nN nT v1 hv1 s.heap.size) (cwV 0 hts gX8_commands_X8_tries rfl rfl rfl (by decide +kernel) ⟨(Nat.le_of_ble_eq_true rfl), (Nat.le_of_ble_eq_true rfl)⟩) (prV hE hK hP hD hS hA [0, 1, 2] rfl rfl 6 0 rfl rfl rfl) rfl rfl hl.1 rfl (lv_room (Nat.le_of_ble_eq_true rfl)) dX8_commands_1 ⟨(Nat.le_of_ble_eq_true rfl), (Nat.le_of_ble_eq_true rfl)⟩) hP hD hS hA [0, 1, 2] [3, 4, 5] [3, 4, 5, 0, 1, 2] rfl rfl rfl (by decide) rfl rfl (fun H locs hP hD hS => ?_)
  refine lv_aload_n hx hb dX8_commands_4 rfl (lv_at hl 0 rfl) ?_
  refine lv_iconst (v := (0 : Int32)) hx hb dX8_commands_5 (by decide) ?_
  refine va_put (D := D) (ci := 6) (v := .int (0 : Int32)) (ty := .int) (C := RX8) (T := TX8) (N := 19) hx hb hts (fun _ h => List.mem_cons_of_mem _ (List.mem_append_left _ (List.mem_append_left _ (List.mem_append_left _ (List.mem_append_right _ h))))) tyX8 tyX8_ok nmX8 hown hK hP hD hS 0 rfl rfl 10 (by decide) (hts (.fieldLink RX8 179 "BarometerClubModel" "at" "I") (List.mem_of_getElem? (i := 1) rfl)) (fun _ h9 => h9) rfl (by decide +kernel) rfl rfl (Nat.le_of_ble_eq_true rfl) dX8_commands_6 (fun H locs hP hD hS => ?_)
  have hP : va_P D vwC7 [(aM, .inr (6, [.ref aMn, .ref aMt, .ref aMk, .int mU, .ref aMs, .int mB, .ref aMl, .int mI, .ref aMx, .int mH, .int (0 : Int32), .int mW, .ref aMd, .int mF, .int mR, .int mD, .int mJ, .int mA, .int v1.1])), (aMn, .inl (K 6, 55, .inl nN)), (aMt, .inl (K 7, 55, .inl v1.2)), (aMk, .inl (K 8, 440, .inl nK)), (aMx, .inl (K 11, 60, .inl nX)), (aMd, .inl (K 12, 3, .inl nD))] H := hP
  have hD : va_D A [(aM, .inr (6, [.ref aMn, .ref aMt, .ref aMk, .int mU, .ref aMs, .int mB, .ref aMl, .int mI, .ref aMx, .int mH, .int (0 : Int32), .int mW, .ref aMd, .int mF, .int mR, .int mD, .int mJ, .int mA, .int v1.1])), (aMn, .inl (K 6, 55, .inl nN)), (aMt, .inl (K 7, 55, .inl v1.2)), (aMk, .inl (K 8, 440, .inl nK)), (aMx, .inl (K 11, 60, .inl nX)), (aMd, .inl (K 12, 3, .inl nD))] := hD
  refine lv_aload_n hx hb dX8_commands_9 rfl (lv_at hl 0 rfl) ?_
  refine lv_iconst (v := (-1 : Int32)) hx hb dX8_commands_10 (by decide) ?_
  refine va_put (D := D) (ci := 6) (v := .int (-1 : Int32)) (ty := .int) (C := RX8) (T := TX8) (N := 19) hx hb hts (fun _ h => List.mem_cons_of_mem _ (List.mem_append_left _ (List.mem_append_left _ (List.mem_append_left _ (List.mem_append_right _ h))))) tyX8 tyX8_ok nmX8 hown hK hP hD hS 0 rfl rfl 13 (by decide) (hts (.fieldLink RX8 32 "BarometerClubModel" "fault" "I") (List.mem_of_getElem? (i := 2) rfl)) (fun _ h9 => h9) rfl (by decide +kernel) rfl rfl (Nat.le_of_ble_eq_true rfl) dX8_commands_11 (fun H locs hP hD hS => ?_)
  have hP : va_P D vwC7 [(aM, .inr (6, [.ref aMn, .ref aMt, .ref aMk, .int mU, .ref aMs, .int mB, .ref aMl, .int mI, .ref aMx, .int mH, .int (0 : Int32), .int mW, .ref aMd, .int (-1 : Int32), .int mR, .int mD, .int mJ, .int mA, .int v1.1])), (aMn, .inl (K 6, 55, .inl nN)), (aMt, .inl (K 7, 55, .inl v1.2)), (aMk, .inl (K 8, 440, .inl nK)), (aMx, .inl (K 11, 60, .inl nX)), (aMd, .inl (K 12, 3, .inl nD))] H := hP
  have hD : va_D A [(aM, .inr (6, [.ref aMn, .ref aMt, .ref aMk, .int mU, .ref aMs, .int mB, .ref aMl, .int mI, .ref aMx, .int mH, .int (0 : Int32), .int mW, .ref aMd, .int (-1 : Int32), .int mR, .int mD, .int mJ, .int mA, .int v1.1])), (aMn, .inl (K 6, 55, .inl nN)), (aMt, .inl (K 7, 55, .inl v1.2)), (aMk, .inl (K 8, 440, .inl nK)), (aMx, .inl (K 11, 60, .inl nX)), (aMd, .inl (K 12, 3, .inl nD))] := hD
  refine lv_aload_n hx hb dX8_commands_14 rfl (lv_at hl 0 rfl) ?_
  obtain ⟨v2, hv2, hF⟩ := oB hF
  refine call_i (wr := [(aMn, .inl (K 6, 55, .inl nN)), (aMt, .inl (K 7, 55, .inl v1.2)), (aMk, .inl (K 8, 440, .inl nK))]) (wn := [(aM, .inr (6, [.ref aMn, .ref aMt, .ref aMk, .int mU, .ref aMs, .int mB, .ref aMl, .int mI, .ref aMx, .int mH, .int v2.2.1, .int v2.2.2.1, .ref aMd, .int (-1 : Int32), .int mR, .int mD, .int mJ, .int mA, .int v1.1])), (aMn, .inl (K 6, 55, .inl nN)), (aMt, .inl (K 7, 55, .inl v1.2)), (aMk, .inl (K 8, 440, .inl nK)), (aMx, .inl (K 11, 60, .inl nX)), (aMd, .inl (K 12, 3, .inl v2.2.2.2))]) (va_runV (As := []) (rest := []) ⟨hx, hb, hml, hown, hts⟩ (c_X8_isCommand l D K aM aMn aMt aMk aMs aMl aMx aMd mU mB mI mH (0 : Int32) mW (-1 : Int32) mR mD mJ mA v1.1 nX nD v2 hv2 H.size) (cwV 0 hts gX8_commands_X8_isCommand rfl rfl rfl (by decide +kernel) ⟨(Nat.le_of_ble_eq_true rfl), (Nat.le_of_ble_eq_true rfl)⟩) (prV hE hK hP hD hS hA [0, 4, 5] rfl rfl 6 0 rfl rfl rfl) rfl rfl hl.1 rfl (lv_room (Nat.le_of_ble_eq_true rfl)) dX8_commands_15 ⟨(Nat.le_of_ble_eq_true rfl), (Nat.le_of_ble_eq_true rfl)⟩) hP hD hS hA [0, 4, 5] [1, 2, 3] [3, 0, 1, 2, 4, 5] rfl rfl rfl (by decide) rfl rfl (fun H locs hP hD hS => ?_)
  refine lv_istore_n (lv' := [(1, .int v2.1), (0, .ref aM)]) hx hb dX8_commands_18 rfl hl (by decide) rfl (fun ls hl => ?_)
  exact loop_19 mU mH (-1 : Int32) mR mD mJ mA v1.1 nN v1.2 nK FU v2.1 v2.2.1 v2.2.2.1 v2.2.2.2 hF _ _ hP hD hS _ (lv_sub hl [1, 0] rfl)
abbrev RM_X8_faultPosition : Room := { frames := 0, cells := 0, slots := 0, locals := 0 }
abbrev MC_X8_faultPosition : Nat := 0
abbrev MS_X8_faultPosition : Nat := 0
abbrev wf_X8_faultPosition (K : Nat → ClassId) (aM : Nat) (aMn : Nat) (aMt : Nat) (aMk : Nat) (aMs : Nat) (aMl : Nat) (aMx : Nat) (aMd : Nat) (mU : Int32) (mB : Int32) (mI : Int32) (mH : Int32) (mQ : Int32) (mW : Int32) (mF : Int32) (mR : Int32) (mD : Int32) (mJ : Int32) (mA : Int32) (v : Int32 × Int32) : va_W := [(aM, .inr (6, [.ref aMn, .ref aMt, .ref aMk, .int mU, .ref aMs, .int mB, .ref aMl, .int mI, .ref aMx, .int mH, .int mQ, .int mW, .ref aMd, .int mF, .int mR, .int mD, .int mJ, .int mA, .int v.2]))]
set_option maxHeartbeats 4000000 in
set_option maxRecDepth 100000 in
theorem c_X8_faultPosition (l : Launch) (D : va_G) (K : Nat → ClassId) (aM : Nat) (aMn : Nat) (aMt : Nat) (aMk : Nat) (aMs : Nat) (aMl : Nat) (aMx : Nat) (aMd : Nat) (mU : Int32) (mB : Int32) (mI : Int32) (mH : Int32) (mQ : Int32) (mW : Int32) (mF : Int32) (mR : Int32) (mD : Int32) (mJ : Int32) (mA : Int32) (mT : Int32)  (v : Int32 × Int32) (hF : f_X8_faultPosition mF mT = some v) (sz : Nat) :
    (Met l yX8_faultPosition wsX8_faultPosition RM_X8_faultPosition (PC D (TY K) [(aM, .inr (6, [.ref aMn, .ref aMt, .ref aMk, .int mU, .ref aMs, .int mB, .ref aMl, .int mI, .ref aMx, .int mH, .int mQ, .int mW, .ref aMd, .int mF, .int mR, .int mD, .int mJ, .int mA, .int mT]))] [.ref aM] sz) (QI D (TY K) (wf_X8_faultPosition K aM aMn aMt aMk aMs aMl aMx aMd mU mB mI mH mQ mW mF mR mD mJ mA) v (va_A [(aM, .inr (6, [.ref aMn, .ref aMt, .ref aMk, .int mU, .ref aMs, .int mB, .ref aMl, .int mI, .ref aMx, .int mH, .int mQ, .int mW, .ref aMd, .int mF, .int mR, .int mD, .int mJ, .int mA, .int mT]))] sz)) MC_X8_faultPosition MS_X8_faultPosition (va_A [(aM, .inr (6, [.ref aMn, .ref aMt, .ref aMk, .int mU, .ref aMs, .int mB, .ref aMl, .int mI, .ref aMx, .int mH, .int mQ, .int mW, .ref aMd, .int mF, .int mR, .int mD, .int mJ, .int mA, .int mT]))] sz)) := by
  refine pro (Qf := fun A => QI D (TY K) (wf_X8_faultPosition K aM aMn aMt aMk aMs aMl aMx aMd mU mB mI mH mQ mW mF mR mD mJ mA) v A) (cc := cX8_faultPosition) (maxL := 1) (ret := (some .int)) (by decide +kernel) rfl (Nat.le_of_ble_eq_true rfl) ?_
  intro p e s m args below meth c hx hb hr hts hown hlocks hml hini hK A hA hE hP hD hS ls hl
  have hown : s.vm.findClass RX8 = some m.cls := hown
  have hl : lv_has ls 1 [(0, .ref aM)] := hl
  rw [f_X8_faultPosition] at hF
  refine lv_aload_n hx hb dX8_faultPosition_0 rfl (lv_at hl 0 rfl) ?_
  refine lv_iconst (v := (0 : Int32)) hx hb dX8_faultPosition_1 (by decide) ?_
  refine va_put (D := D) (ci := 6) (v := .int (0 : Int32)) (ty := .int) (C := RX8) (T := TX8) (N := 19) hx hb hts (fun _ h => List.mem_cons_of_mem _ (List.mem_append_right _ h)) tyX8 tyX8_ok nmX8 hown hK hP hD hS 0 rfl rfl 18 (by decide) (hts (.fieldLink RX8 36 "BarometerClubModel" "thrown" "I") (List.mem_of_getElem? (i := 1) rfl)) (fun _ h9 => h9) rfl (by decide +kernel) rfl rfl (Nat.le_of_ble_eq_true rfl) dX8_faultPosition_2 (fun H locs hP hD hS => ?_)
  have hP : va_P D vwC7 [(aM, .inr (6, [.ref aMn, .ref aMt, .ref aMk, .int mU, .ref aMs, .int mB, .ref aMl, .int mI, .ref aMx, .int mH, .int mQ, .int mW, .ref aMd, .int mF, .int mR, .int mD, .int mJ, .int mA, .int (0 : Int32)]))] H := hP
  have hD : va_D A [(aM, .inr (6, [.ref aMn, .ref aMt, .ref aMk, .int mU, .ref aMs, .int mB, .ref aMl, .int mI, .ref aMx, .int mH, .int mQ, .int mW, .ref aMd, .int mF, .int mR, .int mD, .int mJ, .int mA, .int (0 : Int32)]))] := hD
  refine lv_aload_n hx hb dX8_faultPosition_5 rfl (lv_at hl 0 rfl) ?_
  refine va_get (D := D) (ci := 6) (v := .int mF) (C := RX8) (T := TX8) (N := 19) hx hb hts (fun _ h => List.mem_cons_of_mem _ (List.mem_append_right _ h)) hown hK hP 0 rfl rfl 13 (by decide) (hts (.fieldLink RX8 32 "BarometerClubModel" "fault" "I") (List.mem_of_getElem? (i := 2) rfl)) (fun _ h9 => h9) rfl dX8_faultPosition_6 ?_
  exact fin_i (u := (mF, (0 : Int32))) hF hx hb hr hlocks hK hP hD hS (Nat.le_of_ble_eq_true rfl) (Nat.le_of_ble_eq_true rfl) dX8_faultPosition_9
abbrev RM_X8_reason : Room := { frames := 1, cells := 0, slots := 0, locals := 22 }
abbrev MC_X8_reason : Nat := 0
abbrev MS_X8_reason : Nat := 0
abbrev wf_X8_reason (K : Nat → ClassId) (aM : Nat) (aMn : Nat) (aMt : Nat) (aMk : Nat) (aMs : Nat) (aMl : Nat) (aMx : Nat) (aMd : Nat) (mU : Int32) (mB : Int32) (mI : Int32) (mH : Int32) (mQ : Int32) (mW : Int32) (mF : Int32) (mR : Int32) (mD : Int32) (mJ : Int32) (mA : Int32) (v : Int32 × Int32) : va_W := [(aM, .inr (6, [.ref aMn, .ref aMt, .ref aMk, .int mU, .ref aMs, .int mB, .ref aMl, .int mI, .ref aMx, .int mH, .int mQ, .int mW, .ref aMd, .int mF, .int mR, .int mD, .int mJ, .int mA, .int v.2]))]
set_option maxHeartbeats 4000000 in
set_option maxRecDepth 100000 in
theorem c_X8_reason (l : Launch) (D : va_G) (K : Nat → ClassId) (aM : Nat) (aMn : Nat) (aMt : Nat) (aMk : Nat) (aMs : Nat) (aMl : Nat) (aMx : Nat) (aMd : Nat) (mU : Int32) (mB : Int32) (mI : Int32) (mH : Int32) (mQ : Int32) (mW : Int32) (mF : Int32) (mR : Int32) (mD : Int32) (mJ : Int32) (mA : Int32) (mT : Int32) (p1 : Int32) (v : Int32 × Int32) (hF : f_X8_reason mR mD mJ mT p1 = some v) (sz : Nat) :
    (Met l yX8_reason wsX8_reason RM_X8_reason (PC D (TY K) [(aM, .inr (6, [.ref aMn, .ref aMt, .ref aMk, .int mU, .ref aMs, .int mB, .ref aMl, .int mI, .ref aMx, .int mH, .int mQ, .int mW, .ref aMd, .int mF, .int mR, .int mD, .int mJ, .int mA, .int mT]))] [.ref aM, .int p1] sz) (QI D (TY K) (wf_X8_reason K aM aMn aMt aMk aMs aMl aMx aMd mU mB mI mH mQ mW mF mR mD mJ mA) v (va_A [(aM, .inr (6, [.ref aMn, .ref aMt, .ref aMk, .int mU, .ref aMs, .int mB, .ref aMl, .int mI, .ref aMx, .int mH, .int mQ, .int mW, .ref aMd, .int mF, .int mR, .int mD, .int mJ, .int mA, .int mT]))] sz)) MC_X8_reason MS_X8_reason (va_A [(aM, .inr (6, [.ref aMn, .ref aMt, .ref aMk, .int mU, .ref aMs, .int mB, .ref aMl, .int mI, .ref aMx, .int mH, .int mQ, .int mW, .ref aMd, .int mF, .int mR, .int mD, .int mJ, .int mA, .int mT]))] sz)) := by
  refine pro (Qf := fun A => QI D (TY K) (wf_X8_reason K aM aMn aMt aMk aMs aMl aMx aMd mU mB mI mH mQ mW mF mR mD mJ mA) v A) (cc := cX8_reason) (maxL := 2) (ret := (some .int)) (by decide +kernel) rfl (Nat.le_of_ble_eq_true rfl) ?_
  intro p e s m args below meth c hx hb hr hts hown hlocks hml hini hK A hA hE hP hD hS ls hl
  have hown : s.vm.findClass RX8 = some m.cls := hown
  have hl : lv_has ls 2 [(0, .ref aM), (1, .int p1)] := hl
  rw [f_X8_reason] at hF
  refine lv_aload_n hx hb dX8_reason_0 rfl (lv_at hl 0 rfl) ?_
  refine lv_iconst (v := (0 : Int32)) hx hb dX8_reason_1 (by decide) ?_
  refine va_put (D := D) (ci := 6) (v := .int (0 : Int32)) (ty := .int) (C := RX8) (T := TX8) (N := 19) hx hb hts (fun _ h => List.mem_cons_of_mem _ (List.mem_append_right _ h)) tyX8 tyX8_ok nmX8 hown hK hP hD hS 0 rfl rfl 18 (by decide) (hts (.fieldLink RX8 36 "BarometerClubModel" "thrown" "I") (List.mem_of_getElem? (i := 1) rfl)) (fun _ h9 => h9) rfl (by decide +kernel) rfl rfl (Nat.le_of_ble_eq_true rfl) dX8_reason_2 (fun H locs hP hD hS => ?_)
  have hP : va_P D vwC7 [(aM, .inr (6, [.ref aMn, .ref aMt, .ref aMk, .int mU, .ref aMs, .int mB, .ref aMl, .int mI, .ref aMx, .int mH, .int mQ, .int mW, .ref aMd, .int mF, .int mR, .int mD, .int mJ, .int mA, .int (0 : Int32)]))] H := hP
  have hD : va_D A [(aM, .inr (6, [.ref aMn, .ref aMt, .ref aMk, .int mU, .ref aMs, .int mB, .ref aMl, .int mI, .ref aMx, .int mH, .int mQ, .int mW, .ref aMd, .int mF, .int mR, .int mD, .int mJ, .int mA, .int (0 : Int32)]))] := hD
  refine lv_iload_n hx hb dX8_reason_5 rfl (lv_at hl 1 rfl) ?_
  refine lv_iconst (v := (0 : Int32)) hx hb dX8_reason_6 (by decide) ?_
  refine lv_iconst (v := (2 : Int32)) hx hb dX8_reason_7 (by decide) ?_
  obtain ⟨v1, hv1, hF⟩ := oB hF
  refine call_i (wr := [(aM, .inr (6, [.ref aMn, .ref aMt, .ref aMk, .int mU, .ref aMs, .int mB, .ref aMl, .int mI, .ref aMx, .int mH, .int mQ, .int mW, .ref aMd, .int mF, .int mR, .int mD, .int mJ, .int mA, .int (0 : Int32)]))]) (wn := [(aM, .inr (6, [.ref aMn, .ref aMt, .ref aMk, .int mU, .ref aMs, .int mB, .ref aMl, .int mI, .ref aMx, .int mH, .int mQ, .int mW, .ref aMd, .int mF, .int mR, .int mD, .int mJ, .int mA, .int (0 : Int32)]))]) (va_runS (As := [.int p1, .int (0 : Int32), .int (2 : Int32)]) (rest := []) ⟨hx, hb, hml, hown, hts⟩ (c_X8_in l D K p1 (0 : Int32) (2 : Int32) v1 hv1 H.size) (va_cwS 3 hts gX8_reason_X8_in rfl rfl rfl (by decide +kernel) ⟨(Nat.le_of_ble_eq_true rfl), (Nat.le_of_ble_eq_true rfl)⟩) (prS hE hK hP hD hS hA [] rfl rfl) rfl rfl hl.1 rfl (lv_room (Nat.le_of_ble_eq_true rfl)) dX8_reason_8 ⟨(Nat.le_of_ble_eq_true rfl), (Nat.le_of_ble_eq_true rfl)⟩) hP hD hS hA [] [0] [0] rfl rfl rfl (by decide) rfl rfl (fun H locs hP hD hS => ?_)
  refine lv_if_ne (tgt := 20) hx hb dX8_reason_11 (by decide) (fun c2 => ?_) (fun c2 => ?_)
  · have hF := oF c2 hF
    refine lv_aload_n hx hb dX8_reason_20 rfl (lv_at hl 0 rfl) ?_
    refine va_get (D := D) (ci := 6) (v := .int mR) (C := RX8) (T := TX8) (N := 19) hx hb hts (fun _ h => List.mem_cons_of_mem _ (List.mem_append_right _ h)) hown hK hP 0 rfl rfl 14 (by decide) (hts (.fieldLink RX8 45 "BarometerClubModel" "reason" "I") (List.mem_of_getElem? (i := 2) rfl)) (fun _ h9 => h9) rfl dX8_reason_21 ?_
    refine lv_if_ne (tgt := 33) hx hb dX8_reason_24 (by decide) (fun c3 => ?_) (fun c3 => ?_)
    · have hF := oF c3 hF
      refine lv_iload_n hx hb dX8_reason_33 rfl (lv_at hl 1 rfl) ?_
      refine lv_if_ne (tgt := 44) hx hb dX8_reason_34 (by decide) (fun c4 => ?_) (fun c4 => ?_)
      · have hF := oF c4 hF
        refine lv_iload_n hx hb dX8_reason_44 rfl (lv_at hl 1 rfl) ?_
        refine lv_iconst (v := (1 : Int32)) hx hb dX8_reason_45 (by decide) ?_
        refine lv_icmp_ne (tgt := 56) hx hb dX8_reason_46 (by decide) (fun c5 => ?_) (fun c5 => ?_)
        · have hF := oF c5 hF
          refine lv_aload_n hx hb dX8_reason_56 rfl (lv_at hl 0 rfl) ?_
          refine va_get (D := D) (ci := 6) (v := .int mJ) (C := RX8) (T := TX8) (N := 19) hx hb hts (fun _ h => List.mem_cons_of_mem _ (List.mem_append_right _ h)) hown hK hP 0 rfl rfl 16 (by decide) (hts (.fieldLink RX8 51 "BarometerClubModel" "index" "I") (List.mem_of_getElem? (i := 4) rfl)) (fun _ h9 => h9) rfl dX8_reason_57 ?_
          exact fin_i (u := (mJ, (0 : Int32))) hF hx hb hr hlocks hK hP hD hS (Nat.le_of_ble_eq_true rfl) (Nat.le_of_ble_eq_true rfl) dX8_reason_60
        · have hF := oT c5 hF
          refine lv_aload_n hx hb dX8_reason_49 rfl (lv_at hl 0 rfl) ?_
          refine va_get (D := D) (ci := 6) (v := .int mD) (C := RX8) (T := TX8) (N := 19) hx hb hts (fun _ h => List.mem_cons_of_mem _ (List.mem_append_right _ h)) hown hK hP 0 rfl rfl 15 (by decide) (hts (.fieldLink RX8 48 "BarometerClubModel" "detail" "I") (List.mem_of_getElem? (i := 3) rfl)) (fun _ h9 => h9) rfl dX8_reason_50 ?_
          refine lv_goto (tgt := 60) hx hb dX8_reason_53 (by decide) ?_
          exact fin_i (u := (mD, (0 : Int32))) hF hx hb hr hlocks hK hP hD hS (Nat.le_of_ble_eq_true rfl) (Nat.le_of_ble_eq_true rfl) dX8_reason_60
      · have hF := oT c4 hF
        refine lv_aload_n hx hb dX8_reason_37 rfl (lv_at hl 0 rfl) ?_
        refine va_get (D := D) (ci := 6) (v := .int mR) (C := RX8) (T := TX8) (N := 19) hx hb hts (fun _ h => List.mem_cons_of_mem _ (List.mem_append_right _ h)) hown hK hP 0 rfl rfl 14 (by decide) (hts (.fieldLink RX8 45 "BarometerClubModel" "reason" "I") (List.mem_of_getElem? (i := 2) rfl)) (fun _ h9 => h9) rfl dX8_reason_38 ?_
        refine lv_goto (tgt := 60) hx hb dX8_reason_41 (by decide) ?_
        exact fin_i (u := (mR, (0 : Int32))) hF hx hb hr hlocks hK hP hD hS (Nat.le_of_ble_eq_true rfl) (Nat.le_of_ble_eq_true rfl) dX8_reason_60
    · have hF := oT c3 hF
      refine lv_aload_n hx hb dX8_reason_27 rfl (lv_at hl 0 rfl) ?_
      refine lv_iconst (v := (2 : Int32)) hx hb dX8_reason_28 (by decide) ?_
      obtain ⟨v6, hv6, hF⟩ := oB hF
      refine call_i (wr := []) (wn := [(aM, .inr (6, [.ref aMn, .ref aMt, .ref aMk, .int mU, .ref aMs, .int mB, .ref aMl, .int mI, .ref aMx, .int mH, .int mQ, .int mW, .ref aMd, .int mF, .int mR, .int mD, .int mJ, .int mA, .int v6.2]))]) (va_runV (As := [.int (2 : Int32)]) (rest := []) ⟨hx, hb, hml, hown, hts⟩ (c_X8_raises l D K aM aMn aMt aMk aMs aMl aMx aMd mU mB mI mH mQ mW mF mR mD mJ mA (0 : Int32) (2 : Int32) v6 hv6 H.size) (cwV 1 hts gX8_reason_X8_raises rfl rfl rfl (by decide +kernel) ⟨(Nat.le_of_ble_eq_true rfl), (Nat.le_of_ble_eq_true rfl)⟩) (prV hE hK hP hD hS hA [0] rfl rfl 6 0 rfl rfl rfl) rfl rfl hl.1 rfl (lv_room (Nat.le_of_ble_eq_true rfl)) dX8_reason_29 ⟨(Nat.le_of_ble_eq_true rfl), (Nat.le_of_ble_eq_true rfl)⟩) hP hD hS hA [0] [] [0] rfl rfl rfl (by decide) rfl rfl (fun H locs hP hD hS => ?_)
      exact fin_i (u := (v6.1, v6.2)) hF hx hb hr hlocks hK hP hD hS (Nat.le_of_ble_eq_true rfl) (Nat.le_of_ble_eq_true rfl) dX8_reason_32
  · have hF := oT c2 hF
    refine lv_aload_n hx hb dX8_reason_14 rfl (lv_at hl 0 rfl) ?_
    refine lv_iconst (v := (1 : Int32)) hx hb dX8_reason_15 (by decide) ?_
    obtain ⟨v7, hv7, hF⟩ := oB hF
    refine call_i (wr := []) (wn := [(aM, .inr (6, [.ref aMn, .ref aMt, .ref aMk, .int mU, .ref aMs, .int mB, .ref aMl, .int mI, .ref aMx, .int mH, .int mQ, .int mW, .ref aMd, .int mF, .int mR, .int mD, .int mJ, .int mA, .int v7.2]))]) (va_runV (As := [.int (1 : Int32)]) (rest := []) ⟨hx, hb, hml, hown, hts⟩ (c_X8_raises l D K aM aMn aMt aMk aMs aMl aMx aMd mU mB mI mH mQ mW mF mR mD mJ mA (0 : Int32) (1 : Int32) v7 hv7 H.size) (cwV 1 hts gX8_reason_X8_raises rfl rfl rfl (by decide +kernel) ⟨(Nat.le_of_ble_eq_true rfl), (Nat.le_of_ble_eq_true rfl)⟩) (prV hE hK hP hD hS hA [0] rfl rfl 6 0 rfl rfl rfl) rfl rfl hl.1 rfl (lv_room (Nat.le_of_ble_eq_true rfl)) dX8_reason_16 ⟨(Nat.le_of_ble_eq_true rfl), (Nat.le_of_ble_eq_true rfl)⟩) hP hD hS hA [0] [] [0] rfl rfl rfl (by decide) rfl rfl (fun H locs hP hD hS => ?_)
    exact fin_i (u := (v7.1, v7.2)) hF hx hb hr hlocks hK hP hD hS (Nat.le_of_ble_eq_true rfl) (Nat.le_of_ble_eq_true rfl) dX8_reason_19
abbrev RM_X8_signs : Room := { frames := 0, cells := 0, slots := 0, locals := 0 }
abbrev MC_X8_signs : Nat := 0
abbrev MS_X8_signs : Nat := 0
abbrev wf_X8_signs (K : Nat → ClassId) (aM : Nat) (aMn : Nat) (aMt : Nat) (aMk : Nat) (aMs : Nat) (aMl : Nat) (aMx : Nat) (aMd : Nat) (mU : Int32) (mB : Int32) (mH : Int32) (mQ : Int32) (mW : Int32) (mF : Int32) (mR : Int32) (mD : Int32) (mJ : Int32) (mA : Int32) (mT : Int32) (v : Int32 × (Nat → Int32)) : va_W := [(aM, .inr (6, [.ref aMn, .ref aMt, .ref aMk, .int mU, .ref aMs, .int mB, .ref aMl, .int v.1, .ref aMx, .int mH, .int mQ, .int mW, .ref aMd, .int mF, .int mR, .int mD, .int mJ, .int mA, .int mT])), (aMl, .inl (K 10, 60, .inl v.2))]
set_option maxHeartbeats 4000000 in
set_option maxRecDepth 100000 in
theorem c_X8_signs (l : Launch) (D : va_G) (K : Nat → ClassId) (aM : Nat) (aMn : Nat) (aMt : Nat) (aMk : Nat) (aMs : Nat) (aMl : Nat) (aMx : Nat) (aMd : Nat) (mU : Int32) (mB : Int32) (mI : Int32) (mH : Int32) (mQ : Int32) (mW : Int32) (mF : Int32) (mR : Int32) (mD : Int32) (mJ : Int32) (mA : Int32) (mT : Int32) (nL : Nat → Int32) (p1 : Int32) (v : Int32 × (Nat → Int32)) (hF : f_X8_signs mI nL p1 = some v) (sz : Nat) :
    (Met l yX8_signs wsX8_signs RM_X8_signs (PC D (TY K) [(aM, .inr (6, [.ref aMn, .ref aMt, .ref aMk, .int mU, .ref aMs, .int mB, .ref aMl, .int mI, .ref aMx, .int mH, .int mQ, .int mW, .ref aMd, .int mF, .int mR, .int mD, .int mJ, .int mA, .int mT])), (aMl, .inl (K 10, 60, .inl nL))] [.ref aM, .int p1] sz) (QV D (TY K) (wf_X8_signs K aM aMn aMt aMk aMs aMl aMx aMd mU mB mH mQ mW mF mR mD mJ mA mT) v (va_A [(aM, .inr (6, [.ref aMn, .ref aMt, .ref aMk, .int mU, .ref aMs, .int mB, .ref aMl, .int mI, .ref aMx, .int mH, .int mQ, .int mW, .ref aMd, .int mF, .int mR, .int mD, .int mJ, .int mA, .int mT])), (aMl, .inl (K 10, 60, .inl nL))] sz)) MC_X8_signs MS_X8_signs (va_A [(aM, .inr (6, [.ref aMn, .ref aMt, .ref aMk, .int mU, .ref aMs, .int mB, .ref aMl, .int mI, .ref aMx, .int mH, .int mQ, .int mW, .ref aMd, .int mF, .int mR, .int mD, .int mJ, .int mA, .int mT])), (aMl, .inl (K 10, 60, .inl nL))] sz)) := by
  refine pro (Qf := fun A => QV D (TY K) (wf_X8_signs K aM aMn aMt aMk aMs aMl aMx aMd mU mB mH mQ mW mF mR mD mJ mA mT) v A) (cc := cX8_signs) (maxL := 2) (ret := none) (by decide +kernel) rfl (Nat.le_of_ble_eq_true rfl) ?_
  intro p e s m args below meth c hx hb hr hts hown hlocks hml hini hK A hA hE hP hD hS ls hl
  have hown : s.vm.findClass RX8 = some m.cls := hown
  have hl : lv_has ls 2 [(0, .ref aM), (1, .int p1)] := hl
  rw [f_X8_signs] at hF
  refine lv_aload_n hx hb dX8_signs_0 rfl (lv_at hl 0 rfl) ?_
  refine va_get (D := D) (ci := 6) (v := .ref aMl) (C := RX8) (T := TX8) (N := 19) hx hb hts (fun _ h => List.mem_cons_of_mem _ (List.mem_append_left _ (List.mem_append_right _ h))) hown hK hP 0 rfl rfl 6 (by decide) (hts (.fieldLink RX8 22 "BarometerClubModel" "line" "[C") (List.mem_of_getElem? (i := 1) rfl)) (fun _ h9 => h9) rfl dX8_signs_1 ?_
  refine lv_aload_n hx hb dX8_signs_4 rfl (lv_at hl 0 rfl) ?_
  refine lv_dup hx hb dX8_signs_5 rfl ?_
  refine va_get (D := D) (ci := 6) (v := .int mI) (C := RX8) (T := TX8) (N := 19) hx hb hts (fun _ h => List.mem_cons_of_mem _ (List.mem_append_left _ (List.mem_append_right _ h))) hown hK hP 0 rfl rfl 7 (by decide) (hts (.fieldLink RX8 209 "BarometerClubModel" "lined" "I") (List.mem_of_getElem? (i := 2) rfl)) (fun _ h9 => h9) rfl dX8_signs_6 ?_
  refine lv_dup_x1 hx hb dX8_signs_9 rfl rfl ?_
  refine lv_iconst (v := (1 : Int32)) hx hb dX8_signs_10 (by decide) ?_
  refine lv_iadd hx hb dX8_signs_11 ?_
  refine va_put (D := D) (ci := 6) (v := .int (mI + (1 : Int32))) (ty := .int) (C := RX8) (T := TX8) (N := 19) hx hb hts (fun _ h => List.mem_cons_of_mem _ (List.mem_append_left _ (List.mem_append_right _ h))) tyX8 tyX8_ok nmX8 hown hK hP hD hS 0 rfl rfl 7 (by decide) (hts (.fieldLink RX8 209 "BarometerClubModel" "lined" "I") (List.mem_of_getElem? (i := 2) rfl)) (fun _ h9 => h9) rfl (by decide +kernel) rfl rfl (Nat.le_of_ble_eq_true rfl) dX8_signs_12 (fun H locs hP hD hS => ?_)
  have hP : va_P D vwC7 [(aM, .inr (6, [.ref aMn, .ref aMt, .ref aMk, .int mU, .ref aMs, .int mB, .ref aMl, .int (mI + (1 : Int32)), .ref aMx, .int mH, .int mQ, .int mW, .ref aMd, .int mF, .int mR, .int mD, .int mJ, .int mA, .int mT])), (aMl, .inl (K 10, 60, .inl nL))] H := hP
  have hD : va_D A [(aM, .inr (6, [.ref aMn, .ref aMt, .ref aMk, .int mU, .ref aMs, .int mB, .ref aMl, .int (mI + (1 : Int32)), .ref aMx, .int mH, .int mQ, .int mW, .ref aMd, .int mF, .int mR, .int mD, .int mJ, .int mA, .int mT])), (aMl, .inl (K 10, 60, .inl nL))] := hD
  refine lv_iload_n hx hb dX8_signs_15 rfl (lv_at hl 1 rfl) ?_
  obtain ⟨g1, hF⟩ := oG hF
  refine va_cast hx hb hK hP hD hS 1 10 rfl rfl (inB_in g1) dX8_signs_16 (fun H locs hP hD hS => ?_)
  have hP : va_P D vwC7 [(aM, .inr (6, [.ref aMn, .ref aMt, .ref aMk, .int mU, .ref aMs, .int mB, .ref aMl, .int (mI + (1 : Int32)), .ref aMx, .int mH, .int mQ, .int mW, .ref aMd, .int mF, .int mR, .int mD, .int mJ, .int mA, .int mT])), (aMl, .inl (K 10, 60, .inl (upd nL mI.toNatClampNeg (vp_nar .char p1))))] H := hP
  have hD : va_D A [(aM, .inr (6, [.ref aMn, .ref aMt, .ref aMk, .int mU, .ref aMs, .int mB, .ref aMl, .int (mI + (1 : Int32)), .ref aMx, .int mH, .int mQ, .int mW, .ref aMd, .int mF, .int mR, .int mD, .int mJ, .int mA, .int mT])), (aMl, .inl (K 10, 60, .inl (upd nL mI.toNatClampNeg (vp_nar .char p1))))] := hD
  exact fin_v (u := (mI + (1 : Int32), upd nL mI.toNatClampNeg (vp_nar .char p1))) hF hx hb hr hlocks hK hP hD hS (Nat.le_of_ble_eq_true rfl) (Nat.le_of_ble_eq_true rfl) dX8_signs_17
abbrev RMW (n : Nat) : Room := { frames := n + 1, cells := 0, slots := 0, locals := 32 * (n + 1) }
abbrev RM_X8_writes : Room := RMW 13
abbrev MC_X8_writes : Nat := 0
abbrev MS_X8_writes : Nat := 0
abbrev wf_X8_writes (K : Nat → ClassId) (aM : Nat) (aMn : Nat) (aMt : Nat) (aMk : Nat) (aMs : Nat) (aMl : Nat) (aMx : Nat) (aMd : Nat) (mU : Int32) (mB : Int32) (mH : Int32) (mQ : Int32) (mW : Int32) (mF : Int32) (mR : Int32) (mD : Int32) (mJ : Int32) (mA : Int32) (mT : Int32) (v : Int32 × (Nat → Int32)) : va_W := [(aM, .inr (6, [.ref aMn, .ref aMt, .ref aMk, .int mU, .ref aMs, .int mB, .ref aMl, .int v.1, .ref aMx, .int mH, .int mQ, .int mW, .ref aMd, .int mF, .int mR, .int mD, .int mJ, .int mA, .int mT])), (aMl, .inl (K 10, 60, .inl v.2))]
set_option maxHeartbeats 4000000 in
set_option maxRecDepth 100000 in
theorem c_X8_writes_R (l : Launch) (D : va_G) (K : Nat → ClassId) (aM : Nat) (aMn : Nat) (aMt : Nat) (aMk : Nat) (aMs : Nat) (aMl : Nat) (aMx : Nat) (aMd : Nat) : ∀ (n : Nat) (mU : Int32) (mB : Int32) (mI : Int32) (mH : Int32) (mQ : Int32) (mW : Int32) (mF : Int32) (mR : Int32) (mD : Int32) (mJ : Int32) (mA : Int32) (mT : Int32) (nL : Nat → Int32) (p1 : Int32) (v : Int32 × (Nat → Int32)) (_ : f_X8_writes_R n mI nL p1 = some v) (sz : Nat),
    Met l yX8_writes wsX8_writes (RMW n) (PC D (TY K) [(aM, .inr (6, [.ref aMn, .ref aMt, .ref aMk, .int mU, .ref aMs, .int mB, .ref aMl, .int mI, .ref aMx, .int mH, .int mQ, .int mW, .ref aMd, .int mF, .int mR, .int mD, .int mJ, .int mA, .int mT])), (aMl, .inl (K 10, 60, .inl nL))] [.ref aM, .int p1] sz) (QV D (TY K) (wf_X8_writes K aM aMn aMt aMk aMs aMl aMx aMd mU mB mH mQ mW mF mR mD mJ mA mT) v (va_A [(aM, .inr (6, [.ref aMn, .ref aMt, .ref aMk, .int mU, .ref aMs, .int mB, .ref aMl, .int mI, .ref aMx, .int mH, .int mQ, .int mW, .ref aMd, .int mF, .int mR, .int mD, .int mJ, .int mA, .int mT])), (aMl, .inl (K 10, 60, .inl nL))] sz)) 0 0 (va_A [(aM, .inr (6, [.ref aMn, .ref aMt, .ref aMk, .int mU, .ref aMs, .int mB, .ref aMl, .int mI, .ref aMx, .int mH, .int mQ, .int mW, .ref aMd, .int mF, .int mR, .int mD, .int mJ, .int mA, .int mT])), (aMl, .inl (K 10, 60, .inl nL))] sz) := by
  intro n
  induction n with
  | zero =>
    intro mU mB mI mH mQ mW mF mR mD mJ mA mT nL p1 v hF
    exact nomatch hF
  | succ n ih =>
    intro mU mB mI mH mQ mW mF mR mD mJ mA mT nL p1 v hF sz
    refine pro (Qf := fun A => QV D (TY K) (wf_X8_writes K aM aMn aMt aMk aMs aMl aMx aMd mU mB mH mQ mW mF mR mD mJ mA mT) v A) (cc := cX8_writes) (maxL := 2) (ret := none) (by decide +kernel) rfl (Nat.le_of_ble_eq_true rfl) ?_
    intro p e s m args below meth c hx hb hr hts hown hlocks hml hini hK A hA hE hP hD hS ls hl
    have hown : s.vm.findClass RX8 = some m.cls := hown
    have hl : lv_has ls 2 [(0, .ref aM), (1, .int p1)] := hl
    rw [f_X8_writes_R.eq_2] at hF
    refine lv_iload_n hx hb dX8_writes_0 rfl (lv_at hl 1 rfl) ?_
    refine lv_bipush (v := (9 : Int32)) hx hb dX8_writes_1 (by decide) ?_
    refine lv_icmp_le (tgt := 14) hx hb dX8_writes_3 (by decide) (fun c1 => ?_) (fun c1 => ?_)
    · have hF := oT c1 hF
      refine lv_aload_n hx hb dX8_writes_14 rfl (lv_at hl 0 rfl) ?_
      refine lv_bipush (v := (48 : Int32)) hx hb dX8_writes_15 (by decide) ?_
      refine lv_iload_n hx hb dX8_writes_17 rfl (lv_at hl 1 rfl) ?_
      refine lv_bipush (v := (10 : Int32)) hx hb dX8_writes_18 (by decide) ?_
      refine lv_irem hx hb dX8_writes_20 (by decide) ?_
      refine lv_iadd hx hb dX8_writes_21 ?_
      refine lv_i2c (v := (((48 : Int32) + (p1 - p1 / (10 : Int32) * (10 : Int32))).toUInt32 % 65536).toInt32) hx hb dX8_writes_22 rfl ?_
      obtain ⟨v2, hv2, hF⟩ := oB hF
      refine call_v (wr := []) (wn := [(aM, .inr (6, [.ref aMn, .ref aMt, .ref aMk, .int mU, .ref aMs, .int mB, .ref aMl, .int v2.1, .ref aMx, .int mH, .int mQ, .int mW, .ref aMd, .int mF, .int mR, .int mD, .int mJ, .int mA, .int mT])), (aMl, .inl (K 10, 60, .inl v2.2))]) (va_runV (As := [.int ((((48 : Int32) + (p1 - p1 / (10 : Int32) * (10 : Int32))).toUInt32 % 65536).toInt32)]) (rest := []) ⟨hx, hb, hml, hown, hts⟩ (c_X8_signs l D K aM aMn aMt aMk aMs aMl aMx aMd mU mB mI mH mQ mW mF mR mD mJ mA mT nL ((((48 : Int32) + (p1 - p1 / (10 : Int32) * (10 : Int32))).toUInt32 % 65536).toInt32) v2 hv2 s.heap.size) (cwV 1 hts gX8_writes_X8_signs rfl rfl rfl (by decide +kernel) ⟨by show 0 + 1 ≤ n + 2; omega, by show 8 + (2 + 11) + 0 ≤ 32 * (n + 2); omega⟩) (prV hE hK hP hD hS hA [0, 1] rfl rfl 6 0 rfl rfl rfl) rfl rfl hl.1 rfl (lv_room (Nat.le_of_ble_eq_true rfl)) dX8_writes_23 ⟨(Nat.le_of_ble_eq_true rfl), (Nat.le_of_ble_eq_true rfl)⟩) hP hD hS hA [0, 1] [] [0, 1] rfl rfl rfl (by decide) rfl rfl (fun H locs hP hD hS => ?_)
      exact fin_v (u := (v2.1, v2.2)) hF hx hb hr hlocks hK hP hD hS (Nat.le_of_ble_eq_true rfl) (Nat.le_of_ble_eq_true rfl) dX8_writes_26
    · have hF := oF c1 hF
      refine lv_aload_n hx hb dX8_writes_6 rfl (lv_at hl 0 rfl) ?_
      refine lv_iload_n hx hb dX8_writes_7 rfl (lv_at hl 1 rfl) ?_
      refine lv_bipush (v := (10 : Int32)) hx hb dX8_writes_8 (by decide) ?_
      refine lv_idiv hx hb dX8_writes_10 (by decide) ?_
      obtain ⟨v3, hv3, hF⟩ := oB hF
      refine call_v (wr := []) (wn := [(aM, .inr (6, [.ref aMn, .ref aMt, .ref aMk, .int mU, .ref aMs, .int mB, .ref aMl, .int v3.1, .ref aMx, .int mH, .int mQ, .int mW, .ref aMd, .int mF, .int mR, .int mD, .int mJ, .int mA, .int mT])), (aMl, .inl (K 10, 60, .inl v3.2))]) (va_runV (As := [.int (p1 / (10 : Int32))]) (rest := []) ⟨hx, hb, hml, hown, hts⟩ (ih mU mB mI mH mQ mW mF mR mD mJ mA mT nL (p1 / (10 : Int32)) v3 hv3 s.heap.size) (cwV 1 hts gX8_writes_X8_writes rfl rfl rfl (by decide +kernel) ⟨Nat.le_refl _, by show 8 + (2 + 11) + 32 * (n + 1) ≤ 32 * (n + 2); omega⟩) (prV hE hK hP hD hS hA [0, 1] rfl rfl 6 0 rfl rfl rfl) rfl rfl hl.1 rfl (lv_room (Nat.le_of_ble_eq_true rfl)) dX8_writes_11 ⟨(Nat.le_of_ble_eq_true rfl), (Nat.le_of_ble_eq_true rfl)⟩) hP hD hS hA [0, 1] [] [0, 1] rfl rfl rfl (by decide) rfl rfl (fun H locs hP hD hS => ?_)
      refine lv_aload_n hx hb dX8_writes_14 rfl (lv_at hl 0 rfl) ?_
      refine lv_bipush (v := (48 : Int32)) hx hb dX8_writes_15 (by decide) ?_
      refine lv_iload_n hx hb dX8_writes_17 rfl (lv_at hl 1 rfl) ?_
      refine lv_bipush (v := (10 : Int32)) hx hb dX8_writes_18 (by decide) ?_
      refine lv_irem hx hb dX8_writes_20 (by decide) ?_
      refine lv_iadd hx hb dX8_writes_21 ?_
      refine lv_i2c (v := (((48 : Int32) + (p1 - p1 / (10 : Int32) * (10 : Int32))).toUInt32 % 65536).toInt32) hx hb dX8_writes_22 rfl ?_
      obtain ⟨v4, hv4, hF⟩ := oB hF
      refine call_v (wr := []) (wn := [(aM, .inr (6, [.ref aMn, .ref aMt, .ref aMk, .int mU, .ref aMs, .int mB, .ref aMl, .int v4.1, .ref aMx, .int mH, .int mQ, .int mW, .ref aMd, .int mF, .int mR, .int mD, .int mJ, .int mA, .int mT])), (aMl, .inl (K 10, 60, .inl v4.2))]) (va_runV (As := [.int ((((48 : Int32) + (p1 - p1 / (10 : Int32) * (10 : Int32))).toUInt32 % 65536).toInt32)]) (rest := []) ⟨hx, hb, hml, hown, hts⟩ (c_X8_signs l D K aM aMn aMt aMk aMs aMl aMx aMd mU mB v3.1 mH mQ mW mF mR mD mJ mA mT v3.2 ((((48 : Int32) + (p1 - p1 / (10 : Int32) * (10 : Int32))).toUInt32 % 65536).toInt32) v4 hv4 H.size) (cwV 1 hts gX8_writes_X8_signs rfl rfl rfl (by decide +kernel) ⟨by show 0 + 1 ≤ n + 2; omega, by show 8 + (2 + 11) + 0 ≤ 32 * (n + 2); omega⟩) (prV hE hK hP hD hS hA [0, 1] rfl rfl 6 0 rfl rfl rfl) rfl rfl hl.1 rfl (lv_room (Nat.le_of_ble_eq_true rfl)) dX8_writes_23 ⟨(Nat.le_of_ble_eq_true rfl), (Nat.le_of_ble_eq_true rfl)⟩) hP hD hS hA [0, 1] [] [0, 1] rfl rfl rfl (by decide) rfl rfl (fun H locs hP hD hS => ?_)
      exact fin_v (u := (v4.1, v4.2)) hF hx hb hr hlocks hK hP hD hS (Nat.le_of_ble_eq_true rfl) (Nat.le_of_ble_eq_true rfl) dX8_writes_26
theorem c_X8_writes (l : Launch) (D : va_G) (K : Nat → ClassId) (aM : Nat) (aMn : Nat) (aMt : Nat) (aMk : Nat) (aMs : Nat) (aMl : Nat) (aMx : Nat) (aMd : Nat) (mU : Int32) (mB : Int32) (mI : Int32) (mH : Int32) (mQ : Int32) (mW : Int32) (mF : Int32) (mR : Int32) (mD : Int32) (mJ : Int32) (mA : Int32) (mT : Int32) (nL : Nat → Int32) (p1 : Int32) (v : Int32 × (Nat → Int32)) (hF : f_X8_writes mI nL p1 = some v) (sz : Nat) :
    Met l yX8_writes wsX8_writes RM_X8_writes (PC D (TY K) [(aM, .inr (6, [.ref aMn, .ref aMt, .ref aMk, .int mU, .ref aMs, .int mB, .ref aMl, .int mI, .ref aMx, .int mH, .int mQ, .int mW, .ref aMd, .int mF, .int mR, .int mD, .int mJ, .int mA, .int mT])), (aMl, .inl (K 10, 60, .inl nL))] [.ref aM, .int p1] sz) (QV D (TY K) (wf_X8_writes K aM aMn aMt aMk aMs aMl aMx aMd mU mB mH mQ mW mF mR mD mJ mA mT) v (va_A [(aM, .inr (6, [.ref aMn, .ref aMt, .ref aMk, .int mU, .ref aMs, .int mB, .ref aMl, .int mI, .ref aMx, .int mH, .int mQ, .int mW, .ref aMd, .int mF, .int mR, .int mD, .int mJ, .int mA, .int mT])), (aMl, .inl (K 10, 60, .inl nL))] sz)) MC_X8_writes MS_X8_writes (va_A [(aM, .inr (6, [.ref aMn, .ref aMt, .ref aMk, .int mU, .ref aMs, .int mB, .ref aMl, .int mI, .ref aMx, .int mH, .int mQ, .int mW, .ref aMd, .int mF, .int mR, .int mD, .int mJ, .int mA, .int mT])), (aMl, .inl (K 10, 60, .inl nL))] sz) := c_X8_writes_R l D K aM aMn aMt aMk aMs aMl aMx aMd 13 mU mB mI mH mQ mW mF mR mD mJ mA mT nL p1 v hF sz
abbrev RM_X8_line : Room := { frames := 15, cells := 0, slots := 0, locals := 469 }
abbrev MC_X8_line : Nat := 0
abbrev MS_X8_line : Nat := 0
abbrev wf_X8_line (K : Nat → ClassId) (aM : Nat) (aMn : Nat) (aMt : Nat) (aMk : Nat) (aMs : Nat) (aMl : Nat) (aMx : Nat) (aMd : Nat) (mU : Int32) (mB : Int32) (mH : Int32) (mQ : Int32) (mW : Int32) (mF : Int32) (mR : Int32) (mD : Int32) (mJ : Int32) (mA : Int32) (nN : Nat → Int32) (v : Int32 × Int32 × Int32 × (Nat → Int32)) : va_W := [(aM, .inr (6, [.ref aMn, .ref aMt, .ref aMk, .int mU, .ref aMs, .int mB, .ref aMl, .int v.2.1, .ref aMx, .int mH, .int mQ, .int mW, .ref aMd, .int mF, .int mR, .int mD, .int mJ, .int mA, .int v.2.2.1])), (aMn, .inl (K 6, 55, .inl nN)), (aMl, .inl (K 10, 60, .inl v.2.2.2))]
set_option maxHeartbeats 4000000 in
set_option maxRecDepth 100000 in
theorem c_X8_line (l : Launch) (D : va_G) (K : Nat → ClassId) (aM : Nat) (aMn : Nat) (aMt : Nat) (aMk : Nat) (aMs : Nat) (aMl : Nat) (aMx : Nat) (aMd : Nat) (mU : Int32) (mB : Int32) (mI : Int32) (mH : Int32) (mQ : Int32) (mW : Int32) (mF : Int32) (mR : Int32) (mD : Int32) (mJ : Int32) (mA : Int32) (mT : Int32) (nN : Nat → Int32) (nL : Nat → Int32) (p1 : Int32) (v : Int32 × Int32 × Int32 × (Nat → Int32)) (hF : f_X8_line mI mT nN nL p1 = some v) (sz : Nat) :
    (Met l yX8_line wsX8_line RM_X8_line (PC D (TY K) [(aM, .inr (6, [.ref aMn, .ref aMt, .ref aMk, .int mU, .ref aMs, .int mB, .ref aMl, .int mI, .ref aMx, .int mH, .int mQ, .int mW, .ref aMd, .int mF, .int mR, .int mD, .int mJ, .int mA, .int mT])), (aMn, .inl (K 6, 55, .inl nN)), (aMl, .inl (K 10, 60, .inl nL))] [.ref aM, .int p1] sz) (QI D (TY K) (wf_X8_line K aM aMn aMt aMk aMs aMl aMx aMd mU mB mH mQ mW mF mR mD mJ mA nN) v (va_A [(aM, .inr (6, [.ref aMn, .ref aMt, .ref aMk, .int mU, .ref aMs, .int mB, .ref aMl, .int mI, .ref aMx, .int mH, .int mQ, .int mW, .ref aMd, .int mF, .int mR, .int mD, .int mJ, .int mA, .int mT])), (aMn, .inl (K 6, 55, .inl nN)), (aMl, .inl (K 10, 60, .inl nL))] sz)) MC_X8_line MS_X8_line (va_A [(aM, .inr (6, [.ref aMn, .ref aMt, .ref aMk, .int mU, .ref aMs, .int mB, .ref aMl, .int mI, .ref aMx, .int mH, .int mQ, .int mW, .ref aMd, .int mF, .int mR, .int mD, .int mJ, .int mA, .int mT])), (aMn, .inl (K 6, 55, .inl nN)), (aMl, .inl (K 10, 60, .inl nL))] sz)) := by
  refine pro (Qf := fun A => QI D (TY K) (wf_X8_line K aM aMn aMt aMk aMs aMl aMx aMd mU mB mH mQ mW mF mR mD mJ mA nN) v A) (cc := cX8_line) (maxL := 2) (ret := (some .int)) (by decide +kernel) rfl (Nat.le_of_ble_eq_true rfl) ?_
  intro p e s m args below meth c hx hb hr hts hown hlocks hml hini hK A hA hE hP hD hS ls hl
  have hown : s.vm.findClass RX8 = some m.cls := hown
  have hl : lv_has ls 2 [(0, .ref aM), (1, .int p1)] := hl
  rw [f_X8_line] at hF
  refine lv_aload_n hx hb dX8_line_0 rfl (lv_at hl 0 rfl) ?_
  refine lv_aload_n hx hb dX8_line_1 rfl (lv_at hl 0 rfl) ?_
  refine lv_iload_n hx hb dX8_line_2 rfl (lv_at hl 1 rfl) ?_
  obtain ⟨v1, hv1, hF⟩ := oB hF
  refine call_i (wr := [(aMl, .inl (K 10, 60, .inl nL))]) (wn := [(aM, .inr (6, [.ref aMn, .ref aMt, .ref aMk, .int mU, .ref aMs, .int mB, .ref aMl, .int mI, .ref aMx, .int mH, .int mQ, .int mW, .ref aMd, .int mF, .int mR, .int mD, .int mJ, .int mA, .int mT])), (aMn, .inl (K 6, 55, .inl nN)), (aMl, .inl (K 10, 60, .inl nL))]) (va_runV (As := [.int p1]) (rest := [.ref aM]) ⟨hx, hb, hml, hown, hts⟩ (c_X8_isMember l D K aM aMn aMt aMk aMs aMl aMx aMd mU mB mI mH mQ mW mF mR mD mJ mA mT nN p1 v1 hv1 s.heap.size) (cwV 1 hts gX8_line_X8_isMember rfl rfl rfl (by decide +kernel) ⟨(Nat.le_of_ble_eq_true rfl), (Nat.le_of_ble_eq_true rfl)⟩) (prV hE hK hP hD hS hA [0, 1] rfl rfl 6 0 rfl rfl rfl) rfl rfl hl.1 rfl (lv_room (Nat.le_of_ble_eq_true rfl)) dX8_line_3 ⟨(Nat.le_of_ble_eq_true rfl), (Nat.le_of_ble_eq_true rfl)⟩) hP hD hS hA [0, 1] [2] [1, 2, 0] rfl rfl rfl (by decide) rfl rfl (fun H locs hP hD hS => ?_)
  refine lv_if_eq (tgt := 13) hx hb dX8_line_6 (by decide) (fun c2 => ?_) (fun c2 => ?_)
  · have hF := oT c2 hF
    refine lv_iconst (v := (1 : Int32)) hx hb dX8_line_13 (by decide) ?_
    refine va_put (D := D) (ci := 6) (v := .int (1 : Int32)) (ty := .int) (C := RX8) (T := TX8) (N := 19) hx hb hts (fun _ h => List.mem_cons_of_mem _ (List.mem_append_left _ (List.mem_append_right _ h))) tyX8 tyX8_ok nmX8 hown hK hP hD hS 0 rfl rfl 18 (by decide) (hts (.fieldLink RX8 36 "BarometerClubModel" "thrown" "I") (List.mem_of_getElem? (i := 1) rfl)) (fun _ h9 => h9) rfl (by decide +kernel) rfl rfl (Nat.le_of_ble_eq_true rfl) dX8_line_14 (fun H locs hP hD hS => ?_)
    have hP : va_P D vwC7 [(aM, .inr (6, [.ref aMn, .ref aMt, .ref aMk, .int mU, .ref aMs, .int mB, .ref aMl, .int mI, .ref aMx, .int mH, .int mQ, .int mW, .ref aMd, .int mF, .int mR, .int mD, .int mJ, .int mA, .int (1 : Int32)])), (aMn, .inl (K 6, 55, .inl nN)), (aMl, .inl (K 10, 60, .inl nL))] H := hP
    have hD : va_D A [(aM, .inr (6, [.ref aMn, .ref aMt, .ref aMk, .int mU, .ref aMs, .int mB, .ref aMl, .int mI, .ref aMx, .int mH, .int mQ, .int mW, .ref aMd, .int mF, .int mR, .int mD, .int mJ, .int mA, .int (1 : Int32)])), (aMn, .inl (K 6, 55, .inl nN)), (aMl, .inl (K 10, 60, .inl nL))] := hD
    refine lv_aload_n hx hb dX8_line_17 rfl (lv_at hl 0 rfl) ?_
    refine va_get (D := D) (ci := 6) (v := .int (1 : Int32)) (C := RX8) (T := TX8) (N := 19) hx hb hts (fun _ h => List.mem_cons_of_mem _ (List.mem_append_left _ (List.mem_append_right _ h))) hown hK hP 0 rfl rfl 18 (by decide) (hts (.fieldLink RX8 36 "BarometerClubModel" "thrown" "I") (List.mem_of_getElem? (i := 1) rfl)) (fun _ h9 => h9) rfl dX8_line_18 ?_
    refine lv_if_le (tgt := 26) hx hb dX8_line_21 (by decide) (fun c9 => absurd c9 (by decide)) (fun _ => ?_)
    refine lv_iconst (v := (0 : Int32)) hx hb dX8_line_24 (by decide) ?_
    exact fin_i (u := ((0 : Int32), (mI, (1 : Int32), nL))) hF hx hb hr hlocks hK hP hD hS (Nat.le_of_ble_eq_true rfl) (Nat.le_of_ble_eq_true rfl) dX8_line_25
  · have hF := oF c2 hF
    refine lv_iconst (v := (0 : Int32)) hx hb dX8_line_9 (by decide) ?_
    refine lv_goto (tgt := 14) hx hb dX8_line_10 (by decide) ?_
    refine va_put (D := D) (ci := 6) (v := .int (0 : Int32)) (ty := .int) (C := RX8) (T := TX8) (N := 19) hx hb hts (fun _ h => List.mem_cons_of_mem _ (List.mem_append_left _ (List.mem_append_right _ h))) tyX8 tyX8_ok nmX8 hown hK hP hD hS 0 rfl rfl 18 (by decide) (hts (.fieldLink RX8 36 "BarometerClubModel" "thrown" "I") (List.mem_of_getElem? (i := 1) rfl)) (fun _ h9 => h9) rfl (by decide +kernel) rfl rfl (Nat.le_of_ble_eq_true rfl) dX8_line_14 (fun H locs hP hD hS => ?_)
    have hP : va_P D vwC7 [(aM, .inr (6, [.ref aMn, .ref aMt, .ref aMk, .int mU, .ref aMs, .int mB, .ref aMl, .int mI, .ref aMx, .int mH, .int mQ, .int mW, .ref aMd, .int mF, .int mR, .int mD, .int mJ, .int mA, .int (0 : Int32)])), (aMn, .inl (K 6, 55, .inl nN)), (aMl, .inl (K 10, 60, .inl nL))] H := hP
    have hD : va_D A [(aM, .inr (6, [.ref aMn, .ref aMt, .ref aMk, .int mU, .ref aMs, .int mB, .ref aMl, .int mI, .ref aMx, .int mH, .int mQ, .int mW, .ref aMd, .int mF, .int mR, .int mD, .int mJ, .int mA, .int (0 : Int32)])), (aMn, .inl (K 6, 55, .inl nN)), (aMl, .inl (K 10, 60, .inl nL))] := hD
    refine lv_aload_n hx hb dX8_line_17 rfl (lv_at hl 0 rfl) ?_
    refine va_get (D := D) (ci := 6) (v := .int (0 : Int32)) (C := RX8) (T := TX8) (N := 19) hx hb hts (fun _ h => List.mem_cons_of_mem _ (List.mem_append_left _ (List.mem_append_right _ h))) hown hK hP 0 rfl rfl 18 (by decide) (hts (.fieldLink RX8 36 "BarometerClubModel" "thrown" "I") (List.mem_of_getElem? (i := 1) rfl)) (fun _ h9 => h9) rfl dX8_line_18 ?_
    refine lv_if_le (tgt := 26) hx hb dX8_line_21 (by decide) (fun _ => ?_) (fun c9 => absurd (by decide) c9)
    refine lv_aload_n hx hb dX8_line_26 rfl (lv_at hl 0 rfl) ?_
    refine lv_iconst (v := (0 : Int32)) hx hb dX8_line_27 (by decide) ?_
    refine va_put (D := D) (ci := 6) (v := .int (0 : Int32)) (ty := .int) (C := RX8) (T := TX8) (N := 19) hx hb hts (fun _ h => List.mem_cons_of_mem _ (List.mem_append_left _ (List.mem_append_right _ h))) tyX8 tyX8_ok nmX8 hown hK hP hD hS 0 rfl rfl 7 (by decide) (hts (.fieldLink RX8 209 "BarometerClubModel" "lined" "I") (List.mem_of_getElem? (i := 2) rfl)) (fun _ h9 => h9) rfl (by decide +kernel) rfl rfl (Nat.le_of_ble_eq_true rfl) dX8_line_28 (fun H locs hP hD hS => ?_)
    have hP : va_P D vwC7 [(aM, .inr (6, [.ref aMn, .ref aMt, .ref aMk, .int mU, .ref aMs, .int mB, .ref aMl, .int (0 : Int32), .ref aMx, .int mH, .int mQ, .int mW, .ref aMd, .int mF, .int mR, .int mD, .int mJ, .int mA, .int (0 : Int32)])), (aMn, .inl (K 6, 55, .inl nN)), (aMl, .inl (K 10, 60, .inl nL))] H := hP
    have hD : va_D A [(aM, .inr (6, [.ref aMn, .ref aMt, .ref aMk, .int mU, .ref aMs, .int mB, .ref aMl, .int (0 : Int32), .ref aMx, .int mH, .int mQ, .int mW, .ref aMd, .int mF, .int mR, .int mD, .int mJ, .int mA, .int (0 : Int32)])), (aMn, .inl (K 6, 55, .inl nN)), (aMl, .inl (K 10, 60, .inl nL))] := hD
    refine lv_aload_n hx hb dX8_line_31 rfl (lv_at hl 0 rfl) ?_
    refine lv_aload_n hx hb dX8_line_32 rfl (lv_at hl 0 rfl) ?_
    refine lv_iload_n hx hb dX8_line_33 rfl (lv_at hl 1 rfl) ?_
    refine lv_iconst (v := (0 : Int32)) hx hb dX8_line_34 (by decide) ?_
    obtain ⟨v5, hv5, hF⟩ := oB hF
    refine call_i (wr := [(aMl, .inl (K 10, 60, .inl nL))]) (wn := [(aM, .inr (6, [.ref aMn, .ref aMt, .ref aMk, .int mU, .ref aMs, .int mB, .ref aMl, .int (0 : Int32), .ref aMx, .int mH, .int mQ, .int mW, .ref aMd, .int mF, .int mR, .int mD, .int mJ, .int mA, .int (0 : Int32)])), (aMn, .inl (K 6, 55, .inl nN)), (aMl, .inl (K 10, 60, .inl nL))]) (va_runV (As := [.int p1, .int (0 : Int32)]) (rest := [.ref aM]) ⟨hx, hb, hml, hown, hts⟩ (c_X8_of l D K aM aMn aMt aMk aMs aMl aMx aMd mU mB (0 : Int32) mH mQ mW mF mR mD mJ mA (0 : Int32) nN p1 (0 : Int32) v5 hv5 H.size) (cwV 2 hts gX8_line_X8_of rfl rfl rfl (by decide +kernel) ⟨(Nat.le_of_ble_eq_true rfl), (Nat.le_of_ble_eq_true rfl)⟩) (prV hE hK hP hD hS hA [0, 1] rfl rfl 6 0 rfl rfl rfl) rfl rfl hl.1 rfl (lv_room (Nat.le_of_ble_eq_true rfl)) dX8_line_35 ⟨(Nat.le_of_ble_eq_true rfl), (Nat.le_of_ble_eq_true rfl)⟩) hP hD hS hA [0, 1] [2] [1, 2, 0] rfl rfl rfl (by decide) rfl rfl (fun H locs hP hD hS => ?_)
    obtain ⟨v6, hv6, hF⟩ := oB hF
    refine call_v (wr := [(aMn, .inl (K 6, 55, .inl nN))]) (wn := [(aM, .inr (6, [.ref aMn, .ref aMt, .ref aMk, .int mU, .ref aMs, .int mB, .ref aMl, .int v6.1, .ref aMx, .int mH, .int mQ, .int mW, .ref aMd, .int mF, .int mR, .int mD, .int mJ, .int mA, .int (0 : Int32)])), (aMn, .inl (K 6, 55, .inl nN)), (aMl, .inl (K 10, 60, .inl v6.2))]) (va_runV (As := [.int v5.1]) (rest := []) ⟨hx, hb, hml, hown, hts⟩ (c_X8_writes l D K aM aMn aMt aMk aMs aMl aMx aMd mU mB (0 : Int32) mH mQ mW mF mR mD mJ mA (0 : Int32) nL v5.1 v6 hv6 H.size) (cwV 1 hts gX8_line_X8_writes rfl rfl rfl (by decide +kernel) ⟨(Nat.le_of_ble_eq_true rfl), (Nat.le_of_ble_eq_true rfl)⟩) (prV hE hK hP hD hS hA [0, 2] rfl rfl 6 0 rfl rfl rfl) rfl rfl hl.1 rfl (lv_room (Nat.le_of_ble_eq_true rfl)) dX8_line_38 ⟨(Nat.le_of_ble_eq_true rfl), (Nat.le_of_ble_eq_true rfl)⟩) hP hD hS hA [0, 2] [1] [1, 0, 2] rfl rfl rfl (by decide) rfl rfl (fun H locs hP hD hS => ?_)
    refine lv_aload_n hx hb dX8_line_41 rfl (lv_at hl 0 rfl) ?_
    refine lv_bipush (v := (64 : Int32)) hx hb dX8_line_42 (by decide) ?_
    obtain ⟨v7, hv7, hF⟩ := oB hF
    refine call_v (wr := [(aMn, .inl (K 6, 55, .inl nN))]) (wn := [(aM, .inr (6, [.ref aMn, .ref aMt, .ref aMk, .int mU, .ref aMs, .int mB, .ref aMl, .int v7.1, .ref aMx, .int mH, .int mQ, .int mW, .ref aMd, .int mF, .int mR, .int mD, .int mJ, .int mA, .int (0 : Int32)])), (aMn, .inl (K 6, 55, .inl nN)), (aMl, .inl (K 10, 60, .inl v7.2))]) (va_runV (As := [.int (64 : Int32)]) (rest := []) ⟨hx, hb, hml, hown, hts⟩ (c_X8_signs l D K aM aMn aMt aMk aMs aMl aMx aMd mU mB v6.1 mH mQ mW mF mR mD mJ mA (0 : Int32) v6.2 (64 : Int32) v7 hv7 H.size) (cwV 1 hts gX8_line_X8_signs rfl rfl rfl (by decide +kernel) ⟨(Nat.le_of_ble_eq_true rfl), (Nat.le_of_ble_eq_true rfl)⟩) (prV hE hK hP hD hS hA [0, 2] rfl rfl 6 0 rfl rfl rfl) rfl rfl hl.1 rfl (lv_room (Nat.le_of_ble_eq_true rfl)) dX8_line_44 ⟨(Nat.le_of_ble_eq_true rfl), (Nat.le_of_ble_eq_true rfl)⟩) hP hD hS hA [0, 2] [1] [1, 0, 2] rfl rfl rfl (by decide) rfl rfl (fun H locs hP hD hS => ?_)
    refine lv_aload_n hx hb dX8_line_47 rfl (lv_at hl 0 rfl) ?_
    refine lv_aload_n hx hb dX8_line_48 rfl (lv_at hl 0 rfl) ?_
    refine lv_iload_n hx hb dX8_line_49 rfl (lv_at hl 1 rfl) ?_
    refine lv_iconst (v := (1 : Int32)) hx hb dX8_line_50 (by decide) ?_
    obtain ⟨v8, hv8, hF⟩ := oB hF
    refine call_i (wr := [(aMl, .inl (K 10, 60, .inl v7.2))]) (wn := [(aM, .inr (6, [.ref aMn, .ref aMt, .ref aMk, .int mU, .ref aMs, .int mB, .ref aMl, .int v7.1, .ref aMx, .int mH, .int mQ, .int mW, .ref aMd, .int mF, .int mR, .int mD, .int mJ, .int mA, .int (0 : Int32)])), (aMn, .inl (K 6, 55, .inl nN)), (aMl, .inl (K 10, 60, .inl v7.2))]) (va_runV (As := [.int p1, .int (1 : Int32)]) (rest := [.ref aM]) ⟨hx, hb, hml, hown, hts⟩ (c_X8_of l D K aM aMn aMt aMk aMs aMl aMx aMd mU mB v7.1 mH mQ mW mF mR mD mJ mA (0 : Int32) nN p1 (1 : Int32) v8 hv8 H.size) (cwV 2 hts gX8_line_X8_of rfl rfl rfl (by decide +kernel) ⟨(Nat.le_of_ble_eq_true rfl), (Nat.le_of_ble_eq_true rfl)⟩) (prV hE hK hP hD hS hA [0, 1] rfl rfl 6 0 rfl rfl rfl) rfl rfl hl.1 rfl (lv_room (Nat.le_of_ble_eq_true rfl)) dX8_line_51 ⟨(Nat.le_of_ble_eq_true rfl), (Nat.le_of_ble_eq_true rfl)⟩) hP hD hS hA [0, 1] [2] [1, 2, 0] rfl rfl rfl (by decide) rfl rfl (fun H locs hP hD hS => ?_)
    obtain ⟨v9, hv9, hF⟩ := oB hF
    refine call_v (wr := [(aMn, .inl (K 6, 55, .inl nN))]) (wn := [(aM, .inr (6, [.ref aMn, .ref aMt, .ref aMk, .int mU, .ref aMs, .int mB, .ref aMl, .int v9.1, .ref aMx, .int mH, .int mQ, .int mW, .ref aMd, .int mF, .int mR, .int mD, .int mJ, .int mA, .int (0 : Int32)])), (aMn, .inl (K 6, 55, .inl nN)), (aMl, .inl (K 10, 60, .inl v9.2))]) (va_runV (As := [.int v8.1]) (rest := []) ⟨hx, hb, hml, hown, hts⟩ (c_X8_writes l D K aM aMn aMt aMk aMs aMl aMx aMd mU mB v7.1 mH mQ mW mF mR mD mJ mA (0 : Int32) v7.2 v8.1 v9 hv9 H.size) (cwV 1 hts gX8_line_X8_writes rfl rfl rfl (by decide +kernel) ⟨(Nat.le_of_ble_eq_true rfl), (Nat.le_of_ble_eq_true rfl)⟩) (prV hE hK hP hD hS hA [0, 2] rfl rfl 6 0 rfl rfl rfl) rfl rfl hl.1 rfl (lv_room (Nat.le_of_ble_eq_true rfl)) dX8_line_54 ⟨(Nat.le_of_ble_eq_true rfl), (Nat.le_of_ble_eq_true rfl)⟩) hP hD hS hA [0, 2] [1] [1, 0, 2] rfl rfl rfl (by decide) rfl rfl (fun H locs hP hD hS => ?_)
    refine lv_aload_n hx hb dX8_line_57 rfl (lv_at hl 0 rfl) ?_
    refine lv_iload_n hx hb dX8_line_58 rfl (lv_at hl 1 rfl) ?_
    obtain ⟨v10, hv10, hF⟩ := oB hF
    refine call_i (wr := [(aMl, .inl (K 10, 60, .inl v9.2))]) (wn := [(aM, .inr (6, [.ref aMn, .ref aMt, .ref aMk, .int mU, .ref aMs, .int mB, .ref aMl, .int v9.1, .ref aMx, .int mH, .int mQ, .int mW, .ref aMd, .int mF, .int mR, .int mD, .int mJ, .int mA, .int (0 : Int32)])), (aMn, .inl (K 6, 55, .inl nN)), (aMl, .inl (K 10, 60, .inl v9.2))]) (va_runV (As := [.int p1]) (rest := []) ⟨hx, hb, hml, hown, hts⟩ (c_X8_hasWagered l D K aM aMn aMt aMk aMs aMl aMx aMd mU mB v9.1 mH mQ mW mF mR mD mJ mA (0 : Int32) nN p1 v10 hv10 H.size) (cwV 1 hts gX8_line_X8_hasWagered rfl rfl rfl (by decide +kernel) ⟨(Nat.le_of_ble_eq_true rfl), (Nat.le_of_ble_eq_true rfl)⟩) (prV hE hK hP hD hS hA [0, 1] rfl rfl 6 0 rfl rfl rfl) rfl rfl hl.1 rfl (lv_room (Nat.le_of_ble_eq_true rfl)) dX8_line_59 ⟨(Nat.le_of_ble_eq_true rfl), (Nat.le_of_ble_eq_true rfl)⟩) hP hD hS hA [0, 1] [2] [1, 2, 0] rfl rfl rfl (by decide) rfl rfl (fun H locs hP hD hS => ?_)
    refine lv_if_ne (tgt := 70) hx hb dX8_line_62 (by decide) (fun c11 => ?_) (fun c11 => ?_)
    · have hF := oF c11 hF
      refine lv_aload_n hx hb dX8_line_70 rfl (lv_at hl 0 rfl) ?_
      refine lv_bipush (v := (61 : Int32)) hx hb dX8_line_71 (by decide) ?_
      obtain ⟨v12, hv12, hF⟩ := oB hF
      refine call_v (wr := [(aMn, .inl (K 6, 55, .inl nN))]) (wn := [(aM, .inr (6, [.ref aMn, .ref aMt, .ref aMk, .int mU, .ref aMs, .int mB, .ref aMl, .int v12.1, .ref aMx, .int mH, .int mQ, .int mW, .ref aMd, .int mF, .int mR, .int mD, .int mJ, .int mA, .int (0 : Int32)])), (aMn, .inl (K 6, 55, .inl nN)), (aMl, .inl (K 10, 60, .inl v12.2))]) (va_runV (As := [.int (61 : Int32)]) (rest := []) ⟨hx, hb, hml, hown, hts⟩ (c_X8_signs l D K aM aMn aMt aMk aMs aMl aMx aMd mU mB v9.1 mH mQ mW mF mR mD mJ mA (0 : Int32) v9.2 (61 : Int32) v12 hv12 H.size) (cwV 1 hts gX8_line_X8_signs rfl rfl rfl (by decide +kernel) ⟨(Nat.le_of_ble_eq_true rfl), (Nat.le_of_ble_eq_true rfl)⟩) (prV hE hK hP hD hS hA [0, 2] rfl rfl 6 0 rfl rfl rfl) rfl rfl hl.1 rfl (lv_room (Nat.le_of_ble_eq_true rfl)) dX8_line_73 ⟨(Nat.le_of_ble_eq_true rfl), (Nat.le_of_ble_eq_true rfl)⟩) hP hD hS hA [0, 2] [1] [1, 0, 2] rfl rfl rfl (by decide) rfl rfl (fun H locs hP hD hS => ?_)
      refine lv_aload_n hx hb dX8_line_76 rfl (lv_at hl 0 rfl) ?_
      refine lv_aload_n hx hb dX8_line_77 rfl (lv_at hl 0 rfl) ?_
      refine lv_iload_n hx hb dX8_line_78 rfl (lv_at hl 1 rfl) ?_
      refine lv_iconst (v := (2 : Int32)) hx hb dX8_line_79 (by decide) ?_
      obtain ⟨v13, hv13, hF⟩ := oB hF
      refine call_i (wr := [(aMl, .inl (K 10, 60, .inl v12.2))]) (wn := [(aM, .inr (6, [.ref aMn, .ref aMt, .ref aMk, .int mU, .ref aMs, .int mB, .ref aMl, .int v12.1, .ref aMx, .int mH, .int mQ, .int mW, .ref aMd, .int mF, .int mR, .int mD, .int mJ, .int mA, .int (0 : Int32)])), (aMn, .inl (K 6, 55, .inl nN)), (aMl, .inl (K 10, 60, .inl v12.2))]) (va_runV (As := [.int p1, .int (2 : Int32)]) (rest := [.ref aM]) ⟨hx, hb, hml, hown, hts⟩ (c_X8_of l D K aM aMn aMt aMk aMs aMl aMx aMd mU mB v12.1 mH mQ mW mF mR mD mJ mA (0 : Int32) nN p1 (2 : Int32) v13 hv13 H.size) (cwV 2 hts gX8_line_X8_of rfl rfl rfl (by decide +kernel) ⟨(Nat.le_of_ble_eq_true rfl), (Nat.le_of_ble_eq_true rfl)⟩) (prV hE hK hP hD hS hA [0, 1] rfl rfl 6 0 rfl rfl rfl) rfl rfl hl.1 rfl (lv_room (Nat.le_of_ble_eq_true rfl)) dX8_line_80 ⟨(Nat.le_of_ble_eq_true rfl), (Nat.le_of_ble_eq_true rfl)⟩) hP hD hS hA [0, 1] [2] [1, 2, 0] rfl rfl rfl (by decide) rfl rfl (fun H locs hP hD hS => ?_)
      obtain ⟨v14, hv14, hF⟩ := oB hF
      refine call_v (wr := [(aMn, .inl (K 6, 55, .inl nN))]) (wn := [(aM, .inr (6, [.ref aMn, .ref aMt, .ref aMk, .int mU, .ref aMs, .int mB, .ref aMl, .int v14.1, .ref aMx, .int mH, .int mQ, .int mW, .ref aMd, .int mF, .int mR, .int mD, .int mJ, .int mA, .int (0 : Int32)])), (aMn, .inl (K 6, 55, .inl nN)), (aMl, .inl (K 10, 60, .inl v14.2))]) (va_runV (As := [.int v13.1]) (rest := []) ⟨hx, hb, hml, hown, hts⟩ (c_X8_writes l D K aM aMn aMt aMk aMs aMl aMx aMd mU mB v12.1 mH mQ mW mF mR mD mJ mA (0 : Int32) v12.2 v13.1 v14 hv14 H.size) (cwV 1 hts gX8_line_X8_writes rfl rfl rfl (by decide +kernel) ⟨(Nat.le_of_ble_eq_true rfl), (Nat.le_of_ble_eq_true rfl)⟩) (prV hE hK hP hD hS hA [0, 2] rfl rfl 6 0 rfl rfl rfl) rfl rfl hl.1 rfl (lv_room (Nat.le_of_ble_eq_true rfl)) dX8_line_83 ⟨(Nat.le_of_ble_eq_true rfl), (Nat.le_of_ble_eq_true rfl)⟩) hP hD hS hA [0, 2] [1] [1, 0, 2] rfl rfl rfl (by decide) rfl rfl (fun H locs hP hD hS => ?_)
      refine lv_aload_n hx hb dX8_line_86 rfl (lv_at hl 0 rfl) ?_
      refine lv_bipush (v := (47 : Int32)) hx hb dX8_line_87 (by decide) ?_
      obtain ⟨v15, hv15, hF⟩ := oB hF
      refine call_v (wr := [(aMn, .inl (K 6, 55, .inl nN))]) (wn := [(aM, .inr (6, [.ref aMn, .ref aMt, .ref aMk, .int mU, .ref aMs, .int mB, .ref aMl, .int v15.1, .ref aMx, .int mH, .int mQ, .int mW, .ref aMd, .int mF, .int mR, .int mD, .int mJ, .int mA, .int (0 : Int32)])), (aMn, .inl (K 6, 55, .inl nN)), (aMl, .inl (K 10, 60, .inl v15.2))]) (va_runV (As := [.int (47 : Int32)]) (rest := []) ⟨hx, hb, hml, hown, hts⟩ (c_X8_signs l D K aM aMn aMt aMk aMs aMl aMx aMd mU mB v14.1 mH mQ mW mF mR mD mJ mA (0 : Int32) v14.2 (47 : Int32) v15 hv15 H.size) (cwV 1 hts gX8_line_X8_signs rfl rfl rfl (by decide +kernel) ⟨(Nat.le_of_ble_eq_true rfl), (Nat.le_of_ble_eq_true rfl)⟩) (prV hE hK hP hD hS hA [0, 2] rfl rfl 6 0 rfl rfl rfl) rfl rfl hl.1 rfl (lv_room (Nat.le_of_ble_eq_true rfl)) dX8_line_89 ⟨(Nat.le_of_ble_eq_true rfl), (Nat.le_of_ble_eq_true rfl)⟩) hP hD hS hA [0, 2] [1] [1, 0, 2] rfl rfl rfl (by decide) rfl rfl (fun H locs hP hD hS => ?_)
      refine lv_aload_n hx hb dX8_line_92 rfl (lv_at hl 0 rfl) ?_
      refine lv_aload_n hx hb dX8_line_93 rfl (lv_at hl 0 rfl) ?_
      refine lv_iload_n hx hb dX8_line_94 rfl (lv_at hl 1 rfl) ?_
      refine lv_iconst (v := (3 : Int32)) hx hb dX8_line_95 (by decide) ?_
      obtain ⟨v16, hv16, hF⟩ := oB hF
      refine call_i (wr := [(aMl, .inl (K 10, 60, .inl v15.2))]) (wn := [(aM, .inr (6, [.ref aMn, .ref aMt, .ref aMk, .int mU, .ref aMs, .int mB, .ref aMl, .int v15.1, .ref aMx, .int mH, .int mQ, .int mW, .ref aMd, .int mF, .int mR, .int mD, .int mJ, .int mA, .int (0 : Int32)])), (aMn, .inl (K 6, 55, .inl nN)), (aMl, .inl (K 10, 60, .inl v15.2))]) (va_runV (As := [.int p1, .int (3 : Int32)]) (rest := [.ref aM]) ⟨hx, hb, hml, hown, hts⟩ (c_X8_of l D K aM aMn aMt aMk aMs aMl aMx aMd mU mB v15.1 mH mQ mW mF mR mD mJ mA (0 : Int32) nN p1 (3 : Int32) v16 hv16 H.size) (cwV 2 hts gX8_line_X8_of rfl rfl rfl (by decide +kernel) ⟨(Nat.le_of_ble_eq_true rfl), (Nat.le_of_ble_eq_true rfl)⟩) (prV hE hK hP hD hS hA [0, 1] rfl rfl 6 0 rfl rfl rfl) rfl rfl hl.1 rfl (lv_room (Nat.le_of_ble_eq_true rfl)) dX8_line_96 ⟨(Nat.le_of_ble_eq_true rfl), (Nat.le_of_ble_eq_true rfl)⟩) hP hD hS hA [0, 1] [2] [1, 2, 0] rfl rfl rfl (by decide) rfl rfl (fun H locs hP hD hS => ?_)
      obtain ⟨v17, hv17, hF⟩ := oB hF
      refine call_v (wr := [(aMn, .inl (K 6, 55, .inl nN))]) (wn := [(aM, .inr (6, [.ref aMn, .ref aMt, .ref aMk, .int mU, .ref aMs, .int mB, .ref aMl, .int v17.1, .ref aMx, .int mH, .int mQ, .int mW, .ref aMd, .int mF, .int mR, .int mD, .int mJ, .int mA, .int (0 : Int32)])), (aMn, .inl (K 6, 55, .inl nN)), (aMl, .inl (K 10, 60, .inl v17.2))]) (va_runV (As := [.int v16.1]) (rest := []) ⟨hx, hb, hml, hown, hts⟩ (c_X8_writes l D K aM aMn aMt aMk aMs aMl aMx aMd mU mB v15.1 mH mQ mW mF mR mD mJ mA (0 : Int32) v15.2 v16.1 v17 hv17 H.size) (cwV 1 hts gX8_line_X8_writes rfl rfl rfl (by decide +kernel) ⟨(Nat.le_of_ble_eq_true rfl), (Nat.le_of_ble_eq_true rfl)⟩) (prV hE hK hP hD hS hA [0, 2] rfl rfl 6 0 rfl rfl rfl) rfl rfl hl.1 rfl (lv_room (Nat.le_of_ble_eq_true rfl)) dX8_line_99 ⟨(Nat.le_of_ble_eq_true rfl), (Nat.le_of_ble_eq_true rfl)⟩) hP hD hS hA [0, 2] [1] [1, 0, 2] rfl rfl rfl (by decide) rfl rfl (fun H locs hP hD hS => ?_)
      refine lv_aload_n hx hb dX8_line_102 rfl (lv_at hl 0 rfl) ?_
      refine lv_iload_n hx hb dX8_line_103 rfl (lv_at hl 1 rfl) ?_
      refine lv_iconst (v := (4 : Int32)) hx hb dX8_line_104 (by decide) ?_
      obtain ⟨v18, hv18, hF⟩ := oB hF
      refine call_i (wr := [(aMl, .inl (K 10, 60, .inl v17.2))]) (wn := [(aM, .inr (6, [.ref aMn, .ref aMt, .ref aMk, .int mU, .ref aMs, .int mB, .ref aMl, .int v17.1, .ref aMx, .int mH, .int mQ, .int mW, .ref aMd, .int mF, .int mR, .int mD, .int mJ, .int mA, .int (0 : Int32)])), (aMn, .inl (K 6, 55, .inl nN)), (aMl, .inl (K 10, 60, .inl v17.2))]) (va_runV (As := [.int p1, .int (4 : Int32)]) (rest := []) ⟨hx, hb, hml, hown, hts⟩ (c_X8_of l D K aM aMn aMt aMk aMs aMl aMx aMd mU mB v17.1 mH mQ mW mF mR mD mJ mA (0 : Int32) nN p1 (4 : Int32) v18 hv18 H.size) (cwV 2 hts gX8_line_X8_of rfl rfl rfl (by decide +kernel) ⟨(Nat.le_of_ble_eq_true rfl), (Nat.le_of_ble_eq_true rfl)⟩) (prV hE hK hP hD hS hA [0, 1] rfl rfl 6 0 rfl rfl rfl) rfl rfl hl.1 rfl (lv_room (Nat.le_of_ble_eq_true rfl)) dX8_line_105 ⟨(Nat.le_of_ble_eq_true rfl), (Nat.le_of_ble_eq_true rfl)⟩) hP hD hS hA [0, 1] [2] [1, 2, 0] rfl rfl rfl (by decide) rfl rfl (fun H locs hP hD hS => ?_)
      refine lv_iconst (v := (1 : Int32)) hx hb dX8_line_108 (by decide) ?_
      refine lv_icmp_ne (tgt := 118) hx hb dX8_line_109 (by decide) (fun c19 => ?_) (fun c19 => ?_)
      · have hF := oF c19 hF
        refine lv_aload_n hx hb dX8_line_118 rfl (lv_at hl 0 rfl) ?_
        refine va_get (D := D) (ci := 6) (v := .int v17.1) (C := RX8) (T := TX8) (N := 19) hx hb hts (fun _ h => List.mem_cons_of_mem _ (List.mem_append_left _ (List.mem_append_right _ h))) hown hK hP 0 rfl rfl 7 (by decide) (hts (.fieldLink RX8 209 "BarometerClubModel" "lined" "I") (List.mem_of_getElem? (i := 2) rfl)) (fun _ h9 => h9) rfl dX8_line_119 ?_
        exact fin_i (u := (v17.1, (v17.1, (0 : Int32), v17.2))) hF hx hb hr hlocks hK hP hD hS (Nat.le_of_ble_eq_true rfl) (Nat.le_of_ble_eq_true rfl) dX8_line_122
      · have hF := oT c19 hF
        refine lv_aload_n hx hb dX8_line_112 rfl (lv_at hl 0 rfl) ?_
        refine lv_bipush (v := (33 : Int32)) hx hb dX8_line_113 (by decide) ?_
        obtain ⟨v20, hv20, hF⟩ := oB hF
        refine call_v (wr := [(aMn, .inl (K 6, 55, .inl nN))]) (wn := [(aM, .inr (6, [.ref aMn, .ref aMt, .ref aMk, .int mU, .ref aMs, .int mB, .ref aMl, .int v20.1, .ref aMx, .int mH, .int mQ, .int mW, .ref aMd, .int mF, .int mR, .int mD, .int mJ, .int mA, .int (0 : Int32)])), (aMn, .inl (K 6, 55, .inl nN)), (aMl, .inl (K 10, 60, .inl v20.2))]) (va_runV (As := [.int (33 : Int32)]) (rest := []) ⟨hx, hb, hml, hown, hts⟩ (c_X8_signs l D K aM aMn aMt aMk aMs aMl aMx aMd mU mB v17.1 mH mQ mW mF mR mD mJ mA (0 : Int32) v17.2 (33 : Int32) v20 hv20 H.size) (cwV 1 hts gX8_line_X8_signs rfl rfl rfl (by decide +kernel) ⟨(Nat.le_of_ble_eq_true rfl), (Nat.le_of_ble_eq_true rfl)⟩) (prV hE hK hP hD hS hA [0, 2] rfl rfl 6 0 rfl rfl rfl) rfl rfl hl.1 rfl (lv_room (Nat.le_of_ble_eq_true rfl)) dX8_line_115 ⟨(Nat.le_of_ble_eq_true rfl), (Nat.le_of_ble_eq_true rfl)⟩) hP hD hS hA [0, 2] [1] [1, 0, 2] rfl rfl rfl (by decide) rfl rfl (fun H locs hP hD hS => ?_)
        refine lv_aload_n hx hb dX8_line_118 rfl (lv_at hl 0 rfl) ?_
        refine va_get (D := D) (ci := 6) (v := .int v20.1) (C := RX8) (T := TX8) (N := 19) hx hb hts (fun _ h => List.mem_cons_of_mem _ (List.mem_append_left _ (List.mem_append_right _ h))) hown hK hP 0 rfl rfl 7 (by decide) (hts (.fieldLink RX8 209 "BarometerClubModel" "lined" "I") (List.mem_of_getElem? (i := 2) rfl)) (fun _ h9 => h9) rfl dX8_line_119 ?_
        exact fin_i (u := (v20.1, (v20.1, (0 : Int32), v20.2))) hF hx hb hr hlocks hK hP hD hS (Nat.le_of_ble_eq_true rfl) (Nat.le_of_ble_eq_true rfl) dX8_line_122
    · have hF := oT c11 hF
      refine lv_aload_n hx hb dX8_line_65 rfl (lv_at hl 0 rfl) ?_
      refine va_get (D := D) (ci := 6) (v := .int v9.1) (C := RX8) (T := TX8) (N := 19) hx hb hts (fun _ h => List.mem_cons_of_mem _ (List.mem_append_left _ (List.mem_append_right _ h))) hown hK hP 0 rfl rfl 7 (by decide) (hts (.fieldLink RX8 209 "BarometerClubModel" "lined" "I") (List.mem_of_getElem? (i := 2) rfl)) (fun _ h9 => h9) rfl dX8_line_66 ?_
      exact fin_i (u := (v9.1, (v9.1, (0 : Int32), v9.2))) hF hx hb hr hlocks hK hP hD hS (Nat.le_of_ble_eq_true rfl) (Nat.le_of_ble_eq_true rfl) dX8_line_69
abbrev RM_X8_board : Room := { frames := 15, cells := 0, slots := 0, locals := 469 }
abbrev MC_X8_board : Nat := 0
abbrev MS_X8_board : Nat := 0
abbrev wf_X8_board (K : Nat → ClassId) (aM : Nat) (aMn : Nat) (aMt : Nat) (aMk : Nat) (aMs : Nat) (aMl : Nat) (aMx : Nat) (aMd : Nat) (mU : Int32) (mB : Int32) (mH : Int32) (mQ : Int32) (mW : Int32) (mF : Int32) (mR : Int32) (mD : Int32) (mJ : Int32) (mA : Int32) (nN : Nat → Int32) (v : Int32 × Int32 × Int32 × (Nat → Int32)) : va_W := [(aM, .inr (6, [.ref aMn, .ref aMt, .ref aMk, .int mU, .ref aMs, .int mB, .ref aMl, .int v.2.1, .ref aMx, .int mH, .int mQ, .int mW, .ref aMd, .int mF, .int mR, .int mD, .int mJ, .int mA, .int v.2.2.1])), (aMn, .inl (K 6, 55, .inl nN)), (aMl, .inl (K 10, 60, .inl v.2.2.2))]
set_option maxHeartbeats 4000000 in
set_option maxRecDepth 100000 in
theorem c_X8_board (l : Launch) (D : va_G) (K : Nat → ClassId) (aM : Nat) (aMn : Nat) (aMt : Nat) (aMk : Nat) (aMs : Nat) (aMl : Nat) (aMx : Nat) (aMd : Nat) (mU : Int32) (mB : Int32) (mI : Int32) (mH : Int32) (mQ : Int32) (mW : Int32) (mF : Int32) (mR : Int32) (mD : Int32) (mJ : Int32) (mA : Int32) (mT : Int32) (nN : Nat → Int32) (nL : Nat → Int32)  (v : Int32 × Int32 × Int32 × (Nat → Int32)) (hF : f_X8_board mI mT nN nL = some v) (sz : Nat) :
    (Met l yX8_board wsX8_board RM_X8_board (PC D (TY K) [(aM, .inr (6, [.ref aMn, .ref aMt, .ref aMk, .int mU, .ref aMs, .int mB, .ref aMl, .int mI, .ref aMx, .int mH, .int mQ, .int mW, .ref aMd, .int mF, .int mR, .int mD, .int mJ, .int mA, .int mT])), (aMn, .inl (K 6, 55, .inl nN)), (aMl, .inl (K 10, 60, .inl nL))] [.ref aM] sz) (QI D (TY K) (wf_X8_board K aM aMn aMt aMk aMs aMl aMx aMd mU mB mH mQ mW mF mR mD mJ mA nN) v (va_A [(aM, .inr (6, [.ref aMn, .ref aMt, .ref aMk, .int mU, .ref aMs, .int mB, .ref aMl, .int mI, .ref aMx, .int mH, .int mQ, .int mW, .ref aMd, .int mF, .int mR, .int mD, .int mJ, .int mA, .int mT])), (aMn, .inl (K 6, 55, .inl nN)), (aMl, .inl (K 10, 60, .inl nL))] sz)) MC_X8_board MS_X8_board (va_A [(aM, .inr (6, [.ref aMn, .ref aMt, .ref aMk, .int mU, .ref aMs, .int mB, .ref aMl, .int mI, .ref aMx, .int mH, .int mQ, .int mW, .ref aMd, .int mF, .int mR, .int mD, .int mJ, .int mA, .int mT])), (aMn, .inl (K 6, 55, .inl nN)), (aMl, .inl (K 10, 60, .inl nL))] sz)) := by
  refine pro (Qf := fun A => QI D (TY K) (wf_X8_board K aM aMn aMt aMk aMs aMl aMx aMd mU mB mH mQ mW mF mR mD mJ mA nN) v A) (cc := cX8_board) (maxL := 2) (ret := (some .int)) (by decide +kernel) rfl (Nat.le_of_ble_eq_true rfl) ?_
  intro p e s m args below meth c hx hb hr hts hown hlocks hml hini hK A hA hE hP hD hS ls hl
  have hown : s.vm.findClass RX8 = some m.cls := hown
  have hl : lv_has ls 2 [(0, .ref aM)] := hl
  have loop_12 : ∀ (mT_12 : Int32) (n : Nat) (y12_1 : Int32) (mI_12 : Int32) (nL_12 : Nat → Int32), f_X8_board_L12 nN mT_12 n y12_1 mI_12 nL_12 = some v → ∀ (H : Heap) (locs : List Loc), va_P D vwC7 [(aM, .inr (6, [.ref aMn, .ref aMt, .ref aMk, .int mU, .ref aMs, .int mB, .ref aMl, .int mI_12, .ref aMx, .int mH, .int mQ, .int mW, .ref aMd, .int mF, .int mR, .int mD, .int mJ, .int mA, .int mT_12])), (aMn, .inl (K 6, 55, .inl nN)), (aMl, .inl (K 10, 60, .inl nL_12))] H → va_D A [(aM, .inr (6, [.ref aMn, .ref aMt, .ref aMk, .int mU, .ref aMs, .int mB, .ref aMl, .int mI_12, .ref aMx, .int mH, .int mQ, .int mW, .ref aMd, .int mF, .int mR, .int mD, .int mJ, .int mA, .int mT_12])), (aMn, .inl (K 6, 55, .inl nN)), (aMl, .inl (K 10, 60, .inl nL_12))] → va_S A s.heap H locs → ∀ ls : Array Slot, lv_has ls 2 [(0, .ref aM), (1, .int y12_1)] → W p l e RM_X8_board s m args below meth c H locs 0 0 (MQ below (QI D (TY K) (wf_X8_board K aM aMn aMt aMk aMs aMl aMx aMd mU mB mH mQ mW mF mR mD mJ mA nN) v A) args s MC_X8_board MS_X8_board A) (F0 m 12 ls []) := by
    intro mT_12 n
    induction n with
    | zero =>
      intro y12_1 mI_12 nL_12 hF
      exact nomatch hF
    | succ n ih =>
      intro y12_1 mI_12 nL_12 hF H locs hP hD hS ls hl
      rw [f_X8_board_L12.eq_2] at hF
      refine lv_iload_n hx hb dX8_board_12 rfl (lv_at hl 1 rfl) ?_
      refine lv_bipush (v := (10 : Int32)) hx hb dX8_board_13 (by decide) ?_
      refine lv_icmp_ge (tgt := 50) hx hb dX8_board_15 (by decide) (fun c1 => ?_) (fun c1 => ?_)
      · have hF := oT c1 hF
        refine lv_aload_n hx hb dX8_board_50 rfl (lv_at hl 0 rfl) ?_
        refine va_get (D := D) (ci := 6) (v := .int mI_12) (C := RX8) (T := TX8) (N := 19) hx hb hts (fun _ h => List.mem_cons_of_mem _ (List.mem_append_left _ (List.mem_append_right _ h))) hown hK hP 0 rfl rfl 7 (by decide) (hts (.fieldLink RX8 209 "BarometerClubModel" "lined" "I") (List.mem_of_getElem? (i := 2) rfl)) (fun _ h9 => h9) rfl dX8_board_51 ?_
        exact fin_i (u := (mI_12, (mI_12, mT_12, nL_12))) hF hx hb hr hlocks hK hP hD hS (Nat.le_of_ble_eq_true rfl) (Nat.le_of_ble_eq_true rfl) dX8_board_54
      · have hF := oF c1 hF
        refine lv_aload_n hx hb dX8_board_18 rfl (lv_at hl 0 rfl) ?_
        refine lv_iload_n hx hb dX8_board_19 rfl (lv_at hl 1 rfl) ?_
        obtain ⟨v2, hv2, hF⟩ := oB hF
        refine call_i (wr := [(aMl, .inl (K 10, 60, .inl nL_12))]) (wn := [(aM, .inr (6, [.ref aMn, .ref aMt, .ref aMk, .int mU, .ref aMs, .int mB, .ref aMl, .int mI_12, .ref aMx, .int mH, .int mQ, .int mW, .ref aMd, .int mF, .int mR, .int mD, .int mJ, .int mA, .int mT_12])), (aMn, .inl (K 6, 55, .inl nN)), (aMl, .inl (K 10, 60, .inl nL_12))]) (va_runV (As := [.int y12_1]) (rest := []) ⟨hx, hb, hml, hown, hts⟩ (c_X8_ownerOf l D K aM aMn aMt aMk aMs aMl aMx aMd mU mB mI_12 mH mQ mW mF mR mD mJ mA mT_12 nN y12_1 v2 hv2 H.size) (cwV 1 hts gX8_board_X8_ownerOf rfl rfl rfl (by decide +kernel) ⟨(Nat.le_of_ble_eq_true rfl), (Nat.le_of_ble_eq_true rfl)⟩) (prV hE hK hP hD hS hA [0, 1] rfl rfl 6 0 rfl rfl rfl) rfl rfl hl.1 rfl (lv_room (Nat.le_of_ble_eq_true rfl)) dX8_board_20 ⟨(Nat.le_of_ble_eq_true rfl), (Nat.le_of_ble_eq_true rfl)⟩) hP hD hS hA [0, 1] [2] [1, 2, 0] rfl rfl rfl (by decide) rfl rfl (fun H locs hP hD hS => ?_)
        refine lv_if_ge (tgt := 35) hx hb dX8_board_23 (by decide) (fun c3 => ?_) (fun c3 => ?_)
        · have hF := oT c3 hF
          refine lv_aload_n hx hb dX8_board_35 rfl (lv_at hl 0 rfl) ?_
          refine lv_aload_n hx hb dX8_board_36 rfl (lv_at hl 0 rfl) ?_
          refine lv_iload_n hx hb dX8_board_37 rfl (lv_at hl 1 rfl) ?_
          obtain ⟨v4, hv4, hF⟩ := oB hF
          refine call_i (wr := [(aMl, .inl (K 10, 60, .inl nL_12))]) (wn := [(aM, .inr (6, [.ref aMn, .ref aMt, .ref aMk, .int mU, .ref aMs, .int mB, .ref aMl, .int mI_12, .ref aMx, .int mH, .int mQ, .int mW, .ref aMd, .int mF, .int mR, .int mD, .int mJ, .int mA, .int mT_12])), (aMn, .inl (K 6, 55, .inl nN)), (aMl, .inl (K 10, 60, .inl nL_12))]) (va_runV (As := [.int y12_1]) (rest := [.ref aM]) ⟨hx, hb, hml, hown, hts⟩ (c_X8_ownerOf l D K aM aMn aMt aMk aMs aMl aMx aMd mU mB mI_12 mH mQ mW mF mR mD mJ mA mT_12 nN y12_1 v4 hv4 H.size) (cwV 1 hts gX8_board_X8_ownerOf rfl rfl rfl (by decide +kernel) ⟨(Nat.le_of_ble_eq_true rfl), (Nat.le_of_ble_eq_true rfl)⟩) (prV hE hK hP hD hS hA [0, 1] rfl rfl 6 0 rfl rfl rfl) rfl rfl hl.1 rfl (lv_room (Nat.le_of_ble_eq_true rfl)) dX8_board_38 ⟨(Nat.le_of_ble_eq_true rfl), (Nat.le_of_ble_eq_true rfl)⟩) hP hD hS hA [0, 1] [2] [1, 2, 0] rfl rfl rfl (by decide) rfl rfl (fun H locs hP hD hS => ?_)
          obtain ⟨v5, hv5, hF⟩ := oB hF
          refine call_v (wr := [(aMn, .inl (K 6, 55, .inl nN))]) (wn := [(aM, .inr (6, [.ref aMn, .ref aMt, .ref aMk, .int mU, .ref aMs, .int mB, .ref aMl, .int v5.1, .ref aMx, .int mH, .int mQ, .int mW, .ref aMd, .int mF, .int mR, .int mD, .int mJ, .int mA, .int mT_12])), (aMn, .inl (K 6, 55, .inl nN)), (aMl, .inl (K 10, 60, .inl v5.2))]) (va_runV (As := [.int v4.1]) (rest := []) ⟨hx, hb, hml, hown, hts⟩ (c_X8_writes l D K aM aMn aMt aMk aMs aMl aMx aMd mU mB mI_12 mH mQ mW mF mR mD mJ mA mT_12 nL_12 v4.1 v5 hv5 H.size) (cwV 1 hts gX8_board_X8_writes rfl rfl rfl (by decide +kernel) ⟨(Nat.le_of_ble_eq_true rfl), (Nat.le_of_ble_eq_true rfl)⟩) (prV hE hK hP hD hS hA [0, 2] rfl rfl 6 0 rfl rfl rfl) rfl rfl hl.1 rfl (lv_room (Nat.le_of_ble_eq_true rfl)) dX8_board_41 ⟨(Nat.le_of_ble_eq_true rfl), (Nat.le_of_ble_eq_true rfl)⟩) hP hD hS hA [0, 2] [1] [1, 0, 2] rfl rfl rfl (by decide) rfl rfl (fun H locs hP hD hS => ?_)
          refine lv_iinc (v := y12_1 + (1 : Int32)) (lv' := [(1, .int (y12_1 + (1 : Int32))), (0, .ref aM)]) hx hb dX8_board_44 hl (k := 1) rfl (by first | rfl | decide) (by decide) rfl (fun ls hl => ?_)
          refine lv_goto (tgt := 12) hx hb dX8_board_47 (by decide) ?_
          exact ih (y12_1 + (1 : Int32)) v5.1 v5.2 hF _ _ hP hD hS _ (lv_sub hl [1, 0] rfl)
        · have hF := oF c3 hF
          refine lv_aload_n hx hb dX8_board_26 rfl (lv_at hl 0 rfl) ?_
          refine lv_bipush (v := (46 : Int32)) hx hb dX8_board_27 (by decide) ?_
          obtain ⟨v6, hv6, hF⟩ := oB hF
          refine call_v (wr := [(aMn, .inl (K 6, 55, .inl nN))]) (wn := [(aM, .inr (6, [.ref aMn, .ref aMt, .ref aMk, .int mU, .ref aMs, .int mB, .ref aMl, .int v6.1, .ref aMx, .int mH, .int mQ, .int mW, .ref aMd, .int mF, .int mR, .int mD, .int mJ, .int mA, .int mT_12])), (aMn, .inl (K 6, 55, .inl nN)), (aMl, .inl (K 10, 60, .inl v6.2))]) (va_runV (As := [.int (46 : Int32)]) (rest := []) ⟨hx, hb, hml, hown, hts⟩ (c_X8_signs l D K aM aMn aMt aMk aMs aMl aMx aMd mU mB mI_12 mH mQ mW mF mR mD mJ mA mT_12 nL_12 (46 : Int32) v6 hv6 H.size) (cwV 1 hts gX8_board_X8_signs rfl rfl rfl (by decide +kernel) ⟨(Nat.le_of_ble_eq_true rfl), (Nat.le_of_ble_eq_true rfl)⟩) (prV hE hK hP hD hS hA [0, 2] rfl rfl 6 0 rfl rfl rfl) rfl rfl hl.1 rfl (lv_room (Nat.le_of_ble_eq_true rfl)) dX8_board_29 ⟨(Nat.le_of_ble_eq_true rfl), (Nat.le_of_ble_eq_true rfl)⟩) hP hD hS hA [0, 2] [1] [1, 0, 2] rfl rfl rfl (by decide) rfl rfl (fun H locs hP hD hS => ?_)
          refine lv_goto (tgt := 44) hx hb dX8_board_32 (by decide) ?_
          refine lv_iinc (v := y12_1 + (1 : Int32)) (lv' := [(1, .int (y12_1 + (1 : Int32))), (0, .ref aM)]) hx hb dX8_board_44 hl (k := 1) rfl (by first | rfl | decide) (by decide) rfl (fun ls hl => ?_)
          refine lv_goto (tgt := 12) hx hb dX8_board_47 (by decide) ?_
          exact ih (y12_1 + (1 : Int32)) v6.1 v6.2 hF _ _ hP hD hS _ (lv_sub hl [1, 0] rfl)
  rw [f_X8_board] at hF
  refine lv_aload_n hx hb dX8_board_0 rfl (lv_at hl 0 rfl) ?_
  refine lv_iconst (v := (0 : Int32)) hx hb dX8_board_1 (by decide) ?_
  refine va_put (D := D) (ci := 6) (v := .int (0 : Int32)) (ty := .int) (C := RX8) (T := TX8) (N := 19) hx hb hts (fun _ h => List.mem_cons_of_mem _ (List.mem_append_left _ (List.mem_append_right _ h))) tyX8 tyX8_ok nmX8 hown hK hP hD hS 0 rfl rfl 18 (by decide) (hts (.fieldLink RX8 36 "BarometerClubModel" "thrown" "I") (List.mem_of_getElem? (i := 1) rfl)) (fun _ h9 => h9) rfl (by decide +kernel) rfl rfl (Nat.le_of_ble_eq_true rfl) dX8_board_2 (fun H locs hP hD hS => ?_)
  have hP : va_P D vwC7 [(aM, .inr (6, [.ref aMn, .ref aMt, .ref aMk, .int mU, .ref aMs, .int mB, .ref aMl, .int mI, .ref aMx, .int mH, .int mQ, .int mW, .ref aMd, .int mF, .int mR, .int mD, .int mJ, .int mA, .int (0 : Int32)])), (aMn, .inl (K 6, 55, .inl nN)), (aMl, .inl (K 10, 60, .inl nL))] H := hP
  have hD : va_D A [(aM, .inr (6, [.ref aMn, .ref aMt, .ref aMk, .int mU, .ref aMs, .int mB, .ref aMl, .int mI, .ref aMx, .int mH, .int mQ, .int mW, .ref aMd, .int mF, .int mR, .int mD, .int mJ, .int mA, .int (0 : Int32)])), (aMn, .inl (K 6, 55, .inl nN)), (aMl, .inl (K 10, 60, .inl nL))] := hD
  refine lv_aload_n hx hb dX8_board_5 rfl (lv_at hl 0 rfl) ?_
  refine lv_iconst (v := (0 : Int32)) hx hb dX8_board_6 (by decide) ?_
  refine va_put (D := D) (ci := 6) (v := .int (0 : Int32)) (ty := .int) (C := RX8) (T := TX8) (N := 19) hx hb hts (fun _ h => List.mem_cons_of_mem _ (List.mem_append_left _ (List.mem_append_right _ h))) tyX8 tyX8_ok nmX8 hown hK hP hD hS 0 rfl rfl 7 (by decide) (hts (.fieldLink RX8 209 "BarometerClubModel" "lined" "I") (List.mem_of_getElem? (i := 2) rfl)) (fun _ h9 => h9) rfl (by decide +kernel) rfl rfl (Nat.le_of_ble_eq_true rfl) dX8_board_7 (fun H locs hP hD hS => ?_)
  have hP : va_P D vwC7 [(aM, .inr (6, [.ref aMn, .ref aMt, .ref aMk, .int mU, .ref aMs, .int mB, .ref aMl, .int (0 : Int32), .ref aMx, .int mH, .int mQ, .int mW, .ref aMd, .int mF, .int mR, .int mD, .int mJ, .int mA, .int (0 : Int32)])), (aMn, .inl (K 6, 55, .inl nN)), (aMl, .inl (K 10, 60, .inl nL))] H := hP
  have hD : va_D A [(aM, .inr (6, [.ref aMn, .ref aMt, .ref aMk, .int mU, .ref aMs, .int mB, .ref aMl, .int (0 : Int32), .ref aMx, .int mH, .int mQ, .int mW, .ref aMd, .int mF, .int mR, .int mD, .int mJ, .int mA, .int (0 : Int32)])), (aMn, .inl (K 6, 55, .inl nN)), (aMl, .inl (K 10, 60, .inl nL))] := hD
  refine lv_iconst (v := (0 : Int32)) hx hb dX8_board_10 (by decide) ?_
  refine lv_istore_n (lv' := [(1, .int (0 : Int32)), (0, .ref aM)]) hx hb dX8_board_11 rfl hl (by decide) rfl (fun ls hl => ?_)
  exact loop_12 (0 : Int32) FU (0 : Int32) (0 : Int32) nL hF _ _ hP hD hS _ (lv_sub hl [1, 0] rfl)
abbrev RM_X8_character : Room := { frames := 1, cells := 0, slots := 0, locals := 22 }
abbrev MC_X8_character : Nat := 0
abbrev MS_X8_character : Nat := 0
abbrev wf_X8_character (K : Nat → ClassId) (aM : Nat) (aMn : Nat) (aMt : Nat) (aMk : Nat) (aMs : Nat) (aMl : Nat) (aMx : Nat) (aMd : Nat) (mU : Int32) (mB : Int32) (mI : Int32) (mH : Int32) (mQ : Int32) (mW : Int32) (mF : Int32) (mR : Int32) (mD : Int32) (mJ : Int32) (mA : Int32) (nL : Nat → Int32) (v : Int32 × Int32) : va_W := [(aM, .inr (6, [.ref aMn, .ref aMt, .ref aMk, .int mU, .ref aMs, .int mB, .ref aMl, .int mI, .ref aMx, .int mH, .int mQ, .int mW, .ref aMd, .int mF, .int mR, .int mD, .int mJ, .int mA, .int v.2])), (aMl, .inl (K 10, 60, .inl nL))]
set_option maxHeartbeats 4000000 in
set_option maxRecDepth 100000 in
theorem c_X8_character (l : Launch) (D : va_G) (K : Nat → ClassId) (aM : Nat) (aMn : Nat) (aMt : Nat) (aMk : Nat) (aMs : Nat) (aMl : Nat) (aMx : Nat) (aMd : Nat) (mU : Int32) (mB : Int32) (mI : Int32) (mH : Int32) (mQ : Int32) (mW : Int32) (mF : Int32) (mR : Int32) (mD : Int32) (mJ : Int32) (mA : Int32) (mT : Int32) (nL : Nat → Int32) (p1 : Int32) (v : Int32 × Int32) (hF : f_X8_character mI mT nL p1 = some v) (sz : Nat) :
    (Met l yX8_character wsX8_character RM_X8_character (PC D (TY K) [(aM, .inr (6, [.ref aMn, .ref aMt, .ref aMk, .int mU, .ref aMs, .int mB, .ref aMl, .int mI, .ref aMx, .int mH, .int mQ, .int mW, .ref aMd, .int mF, .int mR, .int mD, .int mJ, .int mA, .int mT])), (aMl, .inl (K 10, 60, .inl nL))] [.ref aM, .int p1] sz) (QI D (TY K) (wf_X8_character K aM aMn aMt aMk aMs aMl aMx aMd mU mB mI mH mQ mW mF mR mD mJ mA nL) v (va_A [(aM, .inr (6, [.ref aMn, .ref aMt, .ref aMk, .int mU, .ref aMs, .int mB, .ref aMl, .int mI, .ref aMx, .int mH, .int mQ, .int mW, .ref aMd, .int mF, .int mR, .int mD, .int mJ, .int mA, .int mT])), (aMl, .inl (K 10, 60, .inl nL))] sz)) MC_X8_character MS_X8_character (va_A [(aM, .inr (6, [.ref aMn, .ref aMt, .ref aMk, .int mU, .ref aMs, .int mB, .ref aMl, .int mI, .ref aMx, .int mH, .int mQ, .int mW, .ref aMd, .int mF, .int mR, .int mD, .int mJ, .int mA, .int mT])), (aMl, .inl (K 10, 60, .inl nL))] sz)) := by
  refine pro (Qf := fun A => QI D (TY K) (wf_X8_character K aM aMn aMt aMk aMs aMl aMx aMd mU mB mI mH mQ mW mF mR mD mJ mA nL) v A) (cc := cX8_character) (maxL := 2) (ret := (some .char)) (by decide +kernel) rfl (Nat.le_of_ble_eq_true rfl) ?_
  intro p e s m args below meth c hx hb hr hts hown hlocks hml hini hK A hA hE hP hD hS ls hl
  have hown : s.vm.findClass RX8 = some m.cls := hown
  have hl : lv_has ls 2 [(0, .ref aM), (1, .int p1)] := hl
  rw [f_X8_character] at hF
  refine lv_aload_n hx hb dX8_character_0 rfl (lv_at hl 0 rfl) ?_
  refine lv_iload_n hx hb dX8_character_1 rfl (lv_at hl 1 rfl) ?_
  refine lv_iconst (v := (0 : Int32)) hx hb dX8_character_2 (by decide) ?_
  refine lv_aload_n hx hb dX8_character_3 rfl (lv_at hl 0 rfl) ?_
  refine va_get (D := D) (ci := 6) (v := .int mI) (C := RX8) (T := TX8) (N := 19) hx hb hts (fun _ h => List.mem_cons_of_mem _ (List.mem_append_left _ (List.mem_append_right _ h))) hown hK hP 0 rfl rfl 7 (by decide) (hts (.fieldLink RX8 209 "BarometerClubModel" "lined" "I") (List.mem_of_getElem? (i := 1) rfl)) (fun _ h9 => h9) rfl dX8_character_4 ?_
  refine lv_iconst (v := (1 : Int32)) hx hb dX8_character_7 (by decide) ?_
  refine lv_isub hx hb dX8_character_8 ?_
  obtain ⟨v1, hv1, hF⟩ := oB hF
  refine call_i (wr := [(aM, .inr (6, [.ref aMn, .ref aMt, .ref aMk, .int mU, .ref aMs, .int mB, .ref aMl, .int mI, .ref aMx, .int mH, .int mQ, .int mW, .ref aMd, .int mF, .int mR, .int mD, .int mJ, .int mA, .int mT])), (aMl, .inl (K 10, 60, .inl nL))]) (wn := [(aM, .inr (6, [.ref aMn, .ref aMt, .ref aMk, .int mU, .ref aMs, .int mB, .ref aMl, .int mI, .ref aMx, .int mH, .int mQ, .int mW, .ref aMd, .int mF, .int mR, .int mD, .int mJ, .int mA, .int mT])), (aMl, .inl (K 10, 60, .inl nL))]) (va_runS (As := [.int p1, .int (0 : Int32), .int (mI - (1 : Int32))]) (rest := [.ref aM]) ⟨hx, hb, hml, hown, hts⟩ (c_X8_in l D K p1 (0 : Int32) (mI - (1 : Int32)) v1 hv1 s.heap.size) (va_cwS 3 hts gX8_character_X8_in rfl rfl rfl (by decide +kernel) ⟨(Nat.le_of_ble_eq_true rfl), (Nat.le_of_ble_eq_true rfl)⟩) (prS hE hK hP hD hS hA [] rfl rfl) rfl rfl hl.1 rfl (lv_room (Nat.le_of_ble_eq_true rfl)) dX8_character_9 ⟨(Nat.le_of_ble_eq_true rfl), (Nat.le_of_ble_eq_true rfl)⟩) hP hD hS hA [] [0, 1] [0, 1] rfl rfl rfl (by decide) rfl rfl (fun H locs hP hD hS => ?_)
  refine lv_if_eq (tgt := 19) hx hb dX8_character_12 (by decide) (fun c2 => ?_) (fun c2 => ?_)
  · have hF := oT c2 hF
    refine lv_iconst (v := (1 : Int32)) hx hb dX8_character_19 (by decide) ?_
    refine va_put (D := D) (ci := 6) (v := .int (1 : Int32)) (ty := .int) (C := RX8) (T := TX8) (N := 19) hx hb hts (fun _ h => List.mem_cons_of_mem _ (List.mem_append_left _ (List.mem_append_right _ h))) tyX8 tyX8_ok nmX8 hown hK hP hD hS 0 rfl rfl 18 (by decide) (hts (.fieldLink RX8 36 "BarometerClubModel" "thrown" "I") (List.mem_of_getElem? (i := 2) rfl)) (fun _ h9 => h9) rfl (by decide +kernel) rfl rfl (Nat.le_of_ble_eq_true rfl) dX8_character_20 (fun H locs hP hD hS => ?_)
    have hP : va_P D vwC7 [(aM, .inr (6, [.ref aMn, .ref aMt, .ref aMk, .int mU, .ref aMs, .int mB, .ref aMl, .int mI, .ref aMx, .int mH, .int mQ, .int mW, .ref aMd, .int mF, .int mR, .int mD, .int mJ, .int mA, .int (1 : Int32)])), (aMl, .inl (K 10, 60, .inl nL))] H := hP
    have hD : va_D A [(aM, .inr (6, [.ref aMn, .ref aMt, .ref aMk, .int mU, .ref aMs, .int mB, .ref aMl, .int mI, .ref aMx, .int mH, .int mQ, .int mW, .ref aMd, .int mF, .int mR, .int mD, .int mJ, .int mA, .int (1 : Int32)])), (aMl, .inl (K 10, 60, .inl nL))] := hD
    refine lv_aload_n hx hb dX8_character_23 rfl (lv_at hl 0 rfl) ?_
    refine va_get (D := D) (ci := 6) (v := .int (1 : Int32)) (C := RX8) (T := TX8) (N := 19) hx hb hts (fun _ h => List.mem_cons_of_mem _ (List.mem_append_left _ (List.mem_append_right _ h))) hown hK hP 0 rfl rfl 18 (by decide) (hts (.fieldLink RX8 36 "BarometerClubModel" "thrown" "I") (List.mem_of_getElem? (i := 2) rfl)) (fun _ h9 => h9) rfl dX8_character_24 ?_
    refine lv_if_ne (tgt := 39) hx hb dX8_character_27 (by decide) (fun _ => ?_) (fun c9 => absurd c9 (by decide))
    refine lv_bipush (v := (97 : Int32)) hx hb dX8_character_39 (by decide) ?_
    exact fin_z (u := ((97 : Int32), (1 : Int32))) hF (okN_n (ty := .char) (x := (97 : Int32)) (by decide)) hx hb hr hlocks hK hP hD hS (Nat.le_of_ble_eq_true rfl) (Nat.le_of_ble_eq_true rfl) dX8_character_41
  · have hF := oF c2 hF
    refine lv_iconst (v := (0 : Int32)) hx hb dX8_character_15 (by decide) ?_
    refine lv_goto (tgt := 20) hx hb dX8_character_16 (by decide) ?_
    refine va_put (D := D) (ci := 6) (v := .int (0 : Int32)) (ty := .int) (C := RX8) (T := TX8) (N := 19) hx hb hts (fun _ h => List.mem_cons_of_mem _ (List.mem_append_left _ (List.mem_append_right _ h))) tyX8 tyX8_ok nmX8 hown hK hP hD hS 0 rfl rfl 18 (by decide) (hts (.fieldLink RX8 36 "BarometerClubModel" "thrown" "I") (List.mem_of_getElem? (i := 2) rfl)) (fun _ h9 => h9) rfl (by decide +kernel) rfl rfl (Nat.le_of_ble_eq_true rfl) dX8_character_20 (fun H locs hP hD hS => ?_)
    have hP : va_P D vwC7 [(aM, .inr (6, [.ref aMn, .ref aMt, .ref aMk, .int mU, .ref aMs, .int mB, .ref aMl, .int mI, .ref aMx, .int mH, .int mQ, .int mW, .ref aMd, .int mF, .int mR, .int mD, .int mJ, .int mA, .int (0 : Int32)])), (aMl, .inl (K 10, 60, .inl nL))] H := hP
    have hD : va_D A [(aM, .inr (6, [.ref aMn, .ref aMt, .ref aMk, .int mU, .ref aMs, .int mB, .ref aMl, .int mI, .ref aMx, .int mH, .int mQ, .int mW, .ref aMd, .int mF, .int mR, .int mD, .int mJ, .int mA, .int (0 : Int32)])), (aMl, .inl (K 10, 60, .inl nL))] := hD
    refine lv_aload_n hx hb dX8_character_23 rfl (lv_at hl 0 rfl) ?_
    refine va_get (D := D) (ci := 6) (v := .int (0 : Int32)) (C := RX8) (T := TX8) (N := 19) hx hb hts (fun _ h => List.mem_cons_of_mem _ (List.mem_append_left _ (List.mem_append_right _ h))) hown hK hP 0 rfl rfl 18 (by decide) (hts (.fieldLink RX8 36 "BarometerClubModel" "thrown" "I") (List.mem_of_getElem? (i := 2) rfl)) (fun _ h9 => h9) rfl dX8_character_24 ?_
    refine lv_if_ne (tgt := 39) hx hb dX8_character_27 (by decide) (fun c9 => absurd (by decide) c9) (fun _ => ?_)
    refine lv_aload_n hx hb dX8_character_30 rfl (lv_at hl 0 rfl) ?_
    refine va_get (D := D) (ci := 6) (v := .ref aMl) (C := RX8) (T := TX8) (N := 19) hx hb hts (fun _ h => List.mem_cons_of_mem _ (List.mem_append_left _ (List.mem_append_right _ h))) hown hK hP 0 rfl rfl 6 (by decide) (hts (.fieldLink RX8 22 "BarometerClubModel" "line" "[C") (List.mem_of_getElem? (i := 3) rfl)) (fun _ h9 => h9) rfl dX8_character_31 ?_
    refine lv_iload_n hx hb dX8_character_34 rfl (lv_at hl 1 rfl) ?_
    obtain ⟨g5, hF⟩ := oG hF
    refine va_cald hx hb hK hP 1 10 rfl rfl (inB_in g5) dX8_character_35 ?_
    refine lv_goto (tgt := 41) hx hb dX8_character_36 (by decide) ?_
    obtain ⟨g6, hF⟩ := oG hF
    exact fin_z (u := (nL p1.toNatClampNeg, (0 : Int32))) hF (okN_n g6) hx hb hr hlocks hK hP hD hS (Nat.le_of_ble_eq_true rfl) (Nat.le_of_ble_eq_true rfl) dX8_character_41
abbrev RM_X8_coins : Room := { frames := 1, cells := 0, slots := 0, locals := 22 }
abbrev MC_X8_coins : Nat := 0
abbrev MS_X8_coins : Nat := 0
abbrev wf_X8_coins (K : Nat → ClassId) (aM : Nat) (aMn : Nat) (aMt : Nat) (aMk : Nat) (aMs : Nat) (aMl : Nat) (aMx : Nat) (aMd : Nat) (mU : Int32) (mB : Int32) (mI : Int32) (mH : Int32) (mQ : Int32) (mW : Int32) (mF : Int32) (mR : Int32) (mD : Int32) (mJ : Int32) (mA : Int32) (mT : Int32) (nN : Nat → Int32) (v : Int32 × Unit) : va_W := [(aM, .inr (6, [.ref aMn, .ref aMt, .ref aMk, .int mU, .ref aMs, .int mB, .ref aMl, .int mI, .ref aMx, .int mH, .int mQ, .int mW, .ref aMd, .int mF, .int mR, .int mD, .int mJ, .int mA, .int mT])), (aMn, .inl (K 6, 55, .inl nN))]
set_option maxHeartbeats 4000000 in
set_option maxRecDepth 100000 in
theorem c_X8_coins (l : Launch) (D : va_G) (K : Nat → ClassId) (aM : Nat) (aMn : Nat) (aMt : Nat) (aMk : Nat) (aMs : Nat) (aMl : Nat) (aMx : Nat) (aMd : Nat) (mU : Int32) (mB : Int32) (mI : Int32) (mH : Int32) (mQ : Int32) (mW : Int32) (mF : Int32) (mR : Int32) (mD : Int32) (mJ : Int32) (mA : Int32) (mT : Int32) (nN : Nat → Int32)  (v : Int32 × Unit) (hF : f_X8_coins nN = some v) (sz : Nat) :
    (Met l yX8_coins wsX8_coins RM_X8_coins (PC D (TY K) [(aM, .inr (6, [.ref aMn, .ref aMt, .ref aMk, .int mU, .ref aMs, .int mB, .ref aMl, .int mI, .ref aMx, .int mH, .int mQ, .int mW, .ref aMd, .int mF, .int mR, .int mD, .int mJ, .int mA, .int mT])), (aMn, .inl (K 6, 55, .inl nN))] [.ref aM] sz) (QI D (TY K) (wf_X8_coins K aM aMn aMt aMk aMs aMl aMx aMd mU mB mI mH mQ mW mF mR mD mJ mA mT nN) v (va_A [(aM, .inr (6, [.ref aMn, .ref aMt, .ref aMk, .int mU, .ref aMs, .int mB, .ref aMl, .int mI, .ref aMx, .int mH, .int mQ, .int mW, .ref aMd, .int mF, .int mR, .int mD, .int mJ, .int mA, .int mT])), (aMn, .inl (K 6, 55, .inl nN))] sz)) MC_X8_coins MS_X8_coins (va_A [(aM, .inr (6, [.ref aMn, .ref aMt, .ref aMk, .int mU, .ref aMs, .int mB, .ref aMl, .int mI, .ref aMx, .int mH, .int mQ, .int mW, .ref aMd, .int mF, .int mR, .int mD, .int mJ, .int mA, .int mT])), (aMn, .inl (K 6, 55, .inl nN))] sz)) := by
  refine pro (Qf := fun A => QI D (TY K) (wf_X8_coins K aM aMn aMt aMk aMs aMl aMx aMd mU mB mI mH mQ mW mF mR mD mJ mA mT nN) v A) (cc := cX8_coins) (maxL := 3) (ret := (some .int)) (by decide +kernel) rfl (Nat.le_of_ble_eq_true rfl) ?_
  intro p e s m args below meth c hx hb hr hts hown hlocks hml hini hK A hA hE hP hD hS ls hl
  have hown : s.vm.findClass RX8 = some m.cls := hown
  have hl : lv_has ls 3 [(0, .ref aM)] := hl
  have loop_4 : ∀  (n : Nat) (y4_1 : Int32) (y4_2 : Int32), f_X8_coins_L4 nN n y4_1 y4_2 = some v → ∀ (H : Heap) (locs : List Loc), va_P D vwC7 [(aM, .inr (6, [.ref aMn, .ref aMt, .ref aMk, .int mU, .ref aMs, .int mB, .ref aMl, .int mI, .ref aMx, .int mH, .int mQ, .int mW, .ref aMd, .int mF, .int mR, .int mD, .int mJ, .int mA, .int mT])), (aMn, .inl (K 6, 55, .inl nN))] H → va_D A [(aM, .inr (6, [.ref aMn, .ref aMt, .ref aMk, .int mU, .ref aMs, .int mB, .ref aMl, .int mI, .ref aMx, .int mH, .int mQ, .int mW, .ref aMd, .int mF, .int mR, .int mD, .int mJ, .int mA, .int mT])), (aMn, .inl (K 6, 55, .inl nN))] → va_S A s.heap H locs → ∀ ls : Array Slot, lv_has ls 3 [(0, .ref aM), (1, .int y4_1), (2, .int y4_2)] → W p l e RM_X8_coins s m args below meth c H locs 0 0 (MQ below (QI D (TY K) (wf_X8_coins K aM aMn aMt aMk aMs aMl aMx aMd mU mB mI mH mQ mW mF mR mD mJ mA mT nN) v A) args s MC_X8_coins MS_X8_coins A) (F0 m 4 ls []) := by
    intro  n
    induction n with
    | zero =>
      intro y4_1 y4_2 hF
      exact nomatch hF
    | succ n ih =>
      intro y4_1 y4_2 hF H locs hP hD hS ls hl
      rw [f_X8_coins_L4.eq_2] at hF
      refine lv_iload_n hx hb dX8_coins_4 rfl (lv_at hl 2 rfl) ?_
      refine lv_aload_n hx hb dX8_coins_5 rfl (lv_at hl 0 rfl) ?_
      refine va_get (D := D) (ci := 6) (v := .ref aMn) (C := RX8) (T := TX8) (N := 19) hx hb hts (fun _ h => List.mem_cons_of_mem _ (List.mem_append_left _ (List.mem_append_right _ h))) hown hK hP 0 rfl rfl 0 (by decide) (hts (.fieldLink RX8 9 "BarometerClubModel" "now" "[I") (List.mem_of_getElem? (i := 1) rfl)) (fun _ h9 => h9) rfl dX8_coins_6 ?_
      refine lv_iconst (v := (0 : Int32)) hx hb dX8_coins_9 (by decide) ?_
      refine va_iald hx hb hK hP 1 6 rfl rfl (inB_in (by decide : inB (0 : Int32) 55 = true)) dX8_coins_10 ?_
      refine lv_icmp_ge (tgt := 29) hx hb dX8_coins_11 (by decide) (fun c1 => ?_) (fun c1 => ?_)
      · have hF := oT c1 hF
        refine lv_iload_n hx hb dX8_coins_29 rfl (lv_at hl 1 rfl) ?_
        exact fin_i (u := (y4_1, ())) hF hx hb hr hlocks hK hP hD hS (Nat.le_of_ble_eq_true rfl) (Nat.le_of_ble_eq_true rfl) dX8_coins_30
      · have hF := oF c1 hF
        refine lv_iload_n hx hb dX8_coins_14 rfl (lv_at hl 1 rfl) ?_
        refine lv_aload_n hx hb dX8_coins_15 rfl (lv_at hl 0 rfl) ?_
        refine lv_iload_n hx hb dX8_coins_16 rfl (lv_at hl 2 rfl) ?_
        refine lv_iconst (v := (0 : Int32)) hx hb dX8_coins_17 (by decide) ?_
        obtain ⟨v2, hv2, hF⟩ := oB hF
        refine call_i (wr := []) (wn := [(aM, .inr (6, [.ref aMn, .ref aMt, .ref aMk, .int mU, .ref aMs, .int mB, .ref aMl, .int mI, .ref aMx, .int mH, .int mQ, .int mW, .ref aMd, .int mF, .int mR, .int mD, .int mJ, .int mA, .int mT])), (aMn, .inl (K 6, 55, .inl nN))]) (va_runV (As := [.int y4_2, .int (0 : Int32)]) (rest := [.int y4_1]) ⟨hx, hb, hml, hown, hts⟩ (c_X8_of l D K aM aMn aMt aMk aMs aMl aMx aMd mU mB mI mH mQ mW mF mR mD mJ mA mT nN y4_2 (0 : Int32) v2 hv2 H.size) (cwV 2 hts gX8_coins_X8_of rfl rfl rfl (by decide +kernel) ⟨(Nat.le_of_ble_eq_true rfl), (Nat.le_of_ble_eq_true rfl)⟩) (prV hE hK hP hD hS hA [0, 1] rfl rfl 6 0 rfl rfl rfl) rfl rfl hl.1 rfl (lv_room (Nat.le_of_ble_eq_true rfl)) dX8_coins_18 ⟨(Nat.le_of_ble_eq_true rfl), (Nat.le_of_ble_eq_true rfl)⟩) hP hD hS hA [0, 1] [] [0, 1] rfl rfl rfl (by decide) rfl rfl (fun H locs hP hD hS => ?_)
        refine lv_iadd hx hb dX8_coins_21 ?_
        refine lv_istore_n (lv' := [(1, .int (y4_1 + v2.1)), (0, .ref aM), (2, .int y4_2)]) hx hb dX8_coins_22 rfl hl (by decide) rfl (fun ls hl => ?_)
        refine lv_iinc (v := y4_2 + (1 : Int32)) (lv' := [(2, .int (y4_2 + (1 : Int32))), (1, .int (y4_1 + v2.1)), (0, .ref aM)]) hx hb dX8_coins_23 hl (k := 2) rfl (by first | rfl | decide) (by decide) rfl (fun ls hl => ?_)
        refine lv_goto (tgt := 4) hx hb dX8_coins_26 (by decide) ?_
        exact ih (y4_1 + v2.1) (y4_2 + (1 : Int32)) hF _ _ hP hD hS _ (lv_sub hl [2, 1, 0] rfl)
  rw [f_X8_coins] at hF
  refine lv_iconst (v := (0 : Int32)) hx hb dX8_coins_0 (by decide) ?_
  refine lv_istore_n (lv' := [(1, .int (0 : Int32)), (0, .ref aM)]) hx hb dX8_coins_1 rfl hl (by decide) rfl (fun ls hl => ?_)
  refine lv_iconst (v := (0 : Int32)) hx hb dX8_coins_2 (by decide) ?_
  refine lv_istore_n (lv' := [(2, .int (0 : Int32)), (1, .int (0 : Int32)), (0, .ref aM)]) hx hb dX8_coins_3 rfl hl (by decide) rfl (fun ls hl => ?_)
  exact loop_4  FU (0 : Int32) (0 : Int32) hF _ _ hP hD hS _ (lv_sub hl [2, 1, 0] rfl)
abbrev RM_X8_meanCoins : Room := { frames := 2, cells := 0, slots := 0, locals := 44 }
abbrev MC_X8_meanCoins : Nat := 0
abbrev MS_X8_meanCoins : Nat := 0
abbrev wf_X8_meanCoins (K : Nat → ClassId) (aM : Nat) (aMn : Nat) (aMt : Nat) (aMk : Nat) (aMs : Nat) (aMl : Nat) (aMx : Nat) (aMd : Nat) (mU : Int32) (mB : Int32) (mI : Int32) (mH : Int32) (mQ : Int32) (mW : Int32) (mF : Int32) (mR : Int32) (mD : Int32) (mJ : Int32) (mA : Int32) (nN : Nat → Int32) (v : UInt64 × Int32) : va_W := [(aM, .inr (6, [.ref aMn, .ref aMt, .ref aMk, .int mU, .ref aMs, .int mB, .ref aMl, .int mI, .ref aMx, .int mH, .int mQ, .int mW, .ref aMd, .int mF, .int mR, .int mD, .int mJ, .int mA, .int v.2])), (aMn, .inl (K 6, 55, .inl nN))]
set_option maxHeartbeats 4000000 in
set_option maxRecDepth 100000 in
theorem c_X8_meanCoins (l : Launch) (D : va_G) (K : Nat → ClassId) (aM : Nat) (aMn : Nat) (aMt : Nat) (aMk : Nat) (aMs : Nat) (aMl : Nat) (aMx : Nat) (aMd : Nat) (mU : Int32) (mB : Int32) (mI : Int32) (mH : Int32) (mQ : Int32) (mW : Int32) (mF : Int32) (mR : Int32) (mD : Int32) (mJ : Int32) (mA : Int32) (mT : Int32) (nN : Nat → Int32)  (v : UInt64 × Int32) (hF : f_X8_meanCoins mT nN = some v) (sz : Nat) :
    (Met l yX8_meanCoins wsX8_meanCoins RM_X8_meanCoins (PC D (TY K) [(aM, .inr (6, [.ref aMn, .ref aMt, .ref aMk, .int mU, .ref aMs, .int mB, .ref aMl, .int mI, .ref aMx, .int mH, .int mQ, .int mW, .ref aMd, .int mF, .int mR, .int mD, .int mJ, .int mA, .int mT])), (aMn, .inl (K 6, 55, .inl nN))] [.ref aM] sz) (QD D (TY K) (wf_X8_meanCoins K aM aMn aMt aMk aMs aMl aMx aMd mU mB mI mH mQ mW mF mR mD mJ mA nN) v (va_A [(aM, .inr (6, [.ref aMn, .ref aMt, .ref aMk, .int mU, .ref aMs, .int mB, .ref aMl, .int mI, .ref aMx, .int mH, .int mQ, .int mW, .ref aMd, .int mF, .int mR, .int mD, .int mJ, .int mA, .int mT])), (aMn, .inl (K 6, 55, .inl nN))] sz)) MC_X8_meanCoins MS_X8_meanCoins (va_A [(aM, .inr (6, [.ref aMn, .ref aMt, .ref aMk, .int mU, .ref aMs, .int mB, .ref aMl, .int mI, .ref aMx, .int mH, .int mQ, .int mW, .ref aMd, .int mF, .int mR, .int mD, .int mJ, .int mA, .int mT])), (aMn, .inl (K 6, 55, .inl nN))] sz)) := by
  refine pro (Qf := fun A => QD D (TY K) (wf_X8_meanCoins K aM aMn aMt aMk aMs aMl aMx aMd mU mB mI mH mQ mW mF mR mD mJ mA nN) v A) (cc := cX8_meanCoins) (maxL := 1) (ret := (some .double)) (by decide +kernel) rfl (Nat.le_of_ble_eq_true rfl) ?_
  intro p e s m args below meth c hx hb hr hts hown hlocks hml hini hK A hA hE hP hD hS ls hl
  have hown : s.vm.findClass RX8 = some m.cls := hown
  have hl : lv_has ls 1 [(0, .ref aM)] := hl
  rw [f_X8_meanCoins] at hF
  refine lv_aload_n hx hb dX8_meanCoins_0 rfl (lv_at hl 0 rfl) ?_
  refine lv_iconst (v := (0 : Int32)) hx hb dX8_meanCoins_1 (by decide) ?_
  refine va_put (D := D) (ci := 6) (v := .int (0 : Int32)) (ty := .int) (C := RX8) (T := TX8) (N := 19) hx hb hts (fun _ h => List.mem_cons_of_mem _ (List.mem_append_left _ (List.mem_append_right _ h))) tyX8 tyX8_ok nmX8 hown hK hP hD hS 0 rfl rfl 18 (by decide) (hts (.fieldLink RX8 36 "BarometerClubModel" "thrown" "I") (List.mem_of_getElem? (i := 1) rfl)) (fun _ h9 => h9) rfl (by decide +kernel) rfl rfl (Nat.le_of_ble_eq_true rfl) dX8_meanCoins_2 (fun H locs hP hD hS => ?_)
  have hP : va_P D vwC7 [(aM, .inr (6, [.ref aMn, .ref aMt, .ref aMk, .int mU, .ref aMs, .int mB, .ref aMl, .int mI, .ref aMx, .int mH, .int mQ, .int mW, .ref aMd, .int mF, .int mR, .int mD, .int mJ, .int mA, .int (0 : Int32)])), (aMn, .inl (K 6, 55, .inl nN))] H := hP
  have hD : va_D A [(aM, .inr (6, [.ref aMn, .ref aMt, .ref aMk, .int mU, .ref aMs, .int mB, .ref aMl, .int mI, .ref aMx, .int mH, .int mQ, .int mW, .ref aMd, .int mF, .int mR, .int mD, .int mJ, .int mA, .int (0 : Int32)])), (aMn, .inl (K 6, 55, .inl nN))] := hD
  refine lv_aload_n hx hb dX8_meanCoins_5 rfl (lv_at hl 0 rfl) ?_
  refine va_get (D := D) (ci := 6) (v := .ref aMn) (C := RX8) (T := TX8) (N := 19) hx hb hts (fun _ h => List.mem_cons_of_mem _ (List.mem_append_left _ (List.mem_append_right _ h))) hown hK hP 0 rfl rfl 0 (by decide) (hts (.fieldLink RX8 9 "BarometerClubModel" "now" "[I") (List.mem_of_getElem? (i := 2) rfl)) (fun _ h9 => h9) rfl dX8_meanCoins_6 ?_
  refine lv_iconst (v := (0 : Int32)) hx hb dX8_meanCoins_9 (by decide) ?_
  refine va_iald hx hb hK hP 1 6 rfl rfl (inB_in (by decide : inB (0 : Int32) 55 = true)) dX8_meanCoins_10 ?_
  refine lv_if_ne (tgt := 23) hx hb dX8_meanCoins_11 (by decide) (fun c1 => ?_) (fun c1 => ?_)
  · have hF := oF c1 hF
    refine lv_aload_n hx hb dX8_meanCoins_23 rfl (lv_at hl 0 rfl) ?_
    obtain ⟨v2, hv2, hF⟩ := oB hF
    refine call_i (wr := []) (wn := [(aM, .inr (6, [.ref aMn, .ref aMt, .ref aMk, .int mU, .ref aMs, .int mB, .ref aMl, .int mI, .ref aMx, .int mH, .int mQ, .int mW, .ref aMd, .int mF, .int mR, .int mD, .int mJ, .int mA, .int (0 : Int32)])), (aMn, .inl (K 6, 55, .inl nN))]) (va_runV (As := []) (rest := []) ⟨hx, hb, hml, hown, hts⟩ (c_X8_coins l D K aM aMn aMt aMk aMs aMl aMx aMd mU mB mI mH mQ mW mF mR mD mJ mA (0 : Int32) nN v2 hv2 H.size) (cwV 0 hts gX8_meanCoins_X8_coins rfl rfl rfl (by decide +kernel) ⟨(Nat.le_of_ble_eq_true rfl), (Nat.le_of_ble_eq_true rfl)⟩) (prV hE hK hP hD hS hA [0, 1] rfl rfl 6 0 rfl rfl rfl) rfl rfl hl.1 rfl (lv_room (Nat.le_of_ble_eq_true rfl)) dX8_meanCoins_24 ⟨(Nat.le_of_ble_eq_true rfl), (Nat.le_of_ble_eq_true rfl)⟩) hP hD hS hA [0, 1] [] [0, 1] rfl rfl rfl (by decide) rfl rfl (fun H locs hP hD hS => ?_)
    refine lv_i2d hx hb dX8_meanCoins_27 ?_
    refine lv_aload_n hx hb dX8_meanCoins_28 rfl (lv_at hl 0 rfl) ?_
    refine va_get (D := D) (ci := 6) (v := .ref aMn) (C := RX8) (T := TX8) (N := 19) hx hb hts (fun _ h => List.mem_cons_of_mem _ (List.mem_append_left _ (List.mem_append_right _ h))) hown hK hP 0 rfl rfl 0 (by decide) (hts (.fieldLink RX8 9 "BarometerClubModel" "now" "[I") (List.mem_of_getElem? (i := 2) rfl)) (fun _ h9 => h9) rfl dX8_meanCoins_29 ?_
    refine lv_iconst (v := (0 : Int32)) hx hb dX8_meanCoins_32 (by decide) ?_
    refine va_iald hx hb hK hP 1 6 rfl rfl (inB_in (by decide : inB (0 : Int32) 55 = true)) dX8_meanCoins_33 ?_
    refine lv_i2d hx hb dX8_meanCoins_34 ?_
    obtain ⟨g3, hF⟩ := oG hF
    refine lv_ddiv hx hb dX8_meanCoins_35 (n64_n g3) ?_
    exact fin_d (u := (FP.ddiv (FP.i2d v2.1) (FP.i2d (nN (0 : Int32).toNatClampNeg)), (0 : Int32))) hF hx hb hr hlocks hK hP hD hS (Nat.le_of_ble_eq_true rfl) (Nat.le_of_ble_eq_true rfl) dX8_meanCoins_36
  · have hF := oT c1 hF
    refine lv_aload_n hx hb dX8_meanCoins_14 rfl (lv_at hl 0 rfl) ?_
    refine lv_iconst (v := (1 : Int32)) hx hb dX8_meanCoins_15 (by decide) ?_
    obtain ⟨v4, hv4, hF⟩ := oB hF
    refine call_i (wr := [(aMn, .inl (K 6, 55, .inl nN))]) (wn := [(aM, .inr (6, [.ref aMn, .ref aMt, .ref aMk, .int mU, .ref aMs, .int mB, .ref aMl, .int mI, .ref aMx, .int mH, .int mQ, .int mW, .ref aMd, .int mF, .int mR, .int mD, .int mJ, .int mA, .int v4.2])), (aMn, .inl (K 6, 55, .inl nN))]) (va_runV (As := [.int (1 : Int32)]) (rest := []) ⟨hx, hb, hml, hown, hts⟩ (c_X8_raises l D K aM aMn aMt aMk aMs aMl aMx aMd mU mB mI mH mQ mW mF mR mD mJ mA (0 : Int32) (1 : Int32) v4 hv4 H.size) (cwV 1 hts gX8_meanCoins_X8_raises rfl rfl rfl (by decide +kernel) ⟨(Nat.le_of_ble_eq_true rfl), (Nat.le_of_ble_eq_true rfl)⟩) (prV hE hK hP hD hS hA [0] rfl rfl 6 0 rfl rfl rfl) rfl rfl hl.1 rfl (lv_room (Nat.le_of_ble_eq_true rfl)) dX8_meanCoins_16 ⟨(Nat.le_of_ble_eq_true rfl), (Nat.le_of_ble_eq_true rfl)⟩) hP hD hS hA [0] [1] [1, 0] rfl rfl rfl (by decide) rfl rfl (fun H locs hP hD hS => ?_)
    refine lv_i2d hx hb dX8_meanCoins_19 ?_
    refine lv_goto (tgt := 36) hx hb dX8_meanCoins_20 (by decide) ?_
    exact fin_d (u := (FP.i2d v4.1, v4.2)) hF hx hb hr hlocks hK hP hD hS (Nat.le_of_ble_eq_true rfl) (Nat.le_of_ble_eq_true rfl) dX8_meanCoins_36
