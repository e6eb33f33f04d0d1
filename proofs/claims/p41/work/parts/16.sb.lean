abbrev RM_J5_init : Room := { frames := 1, cells := 1, slots := 16, locals := 12 }
set_option maxHeartbeats 4000000 in
set_option maxRecDepth 100000 in
theorem c_J5_init (l : Launch) (D : va_G) (aB : Nat) (sz : Nat) : Met l yJ5_init_d00df wsJ5_init_d00df RM_J5_init (PC D [] [(aB, .inr (6, [.null, .int 0, .int 0, .int 0]))] [.ref aB, .int 16] sz) (va_Qv (fun (_ : Unit) => True) (fun _ t => ∃ (q : Nat), ∃ (k : Nat), BT D [(k, .byte)] ((va_A [(aB, .inr (6, [.null, .int 0, .int 0, .int 0]))] sz)) [(aB, .inr (6, [.ref q, .int 0, .int 0, .int 0])), (q, .inl (k, 16, .inl (fun _ => 0)))] t) ((va_A [(aB, .inr (6, [.null, .int 0, .int 0, .int 0]))] sz))) 1 16 (va_A [(aB, .inr (6, [.null, .int 0, .int 0, .int 0]))] sz) := by
  refine pro (Qf := fun A => (va_Qv (fun (_ : Unit) => True) (fun _ t => ∃ (q : Nat), ∃ (k : Nat), BT D [(k, .byte)] (A) [(aB, .inr (6, [.ref q, .int 0, .int 0, .int 0])), (q, .inl (k, 16, .inl (fun _ => 0)))] t) (A))) (cc := cJ5_init_d00df) (maxL := 2) (ret := none) (by decide +kernel) rfl (Nat.le_of_ble_eq_true rfl) ?_
  intro p e s m args below meth c hx hb hr hts hown hlocks hml hini hK A hA hE hP hD hS ls hl
  have hin : meth.name = "<init>" := hini rfl
  have hown : s.vm.findClass RJ5 = some m.cls := hown
  have hl : lv_has ls 2 [(0, .ref aB), (1, .int 16)] := hl
  refine lv_aload_n hx hb dJ5_init_d00df_0 rfl (lv_at hl 0 rfl) ?_
  refine W.objInit hx hb hown (hts (.methodLink RJ5 3 objectInit) (List.mem_of_getElem? (i := 1) rfl)) (hts (.instanceMethod objectInit) (List.mem_of_getElem? (i := 2) rfl)) (hts (.code objectInit ⟨#[0xb1]⟩ 1 none) (List.mem_of_getElem? (i := 3) rfl)) rfl (by rw [hml]; exact hl.1) rfl dJ5_init_d00df_1 (Nat.le_of_ble_eq_true rfl) (Nat.le_of_ble_eq_true rfl) ?_
  refine W.eq (g2 := F0 m 4 ls []) rfl ?_
  refine va_gets (v := .int 1) hx hb hE.2.2.2.2.2.2.2.2.1 hS hown (hts (.fieldLink RJ5 18 "java/lang/String" "COMPACT_STRINGS" "Z") (List.mem_of_getElem? (i := 4) rfl)) (fun _ h9 => h9) dJ5_init_d00df_4 ?_
  refine lv_if_eq (tgt := 25) hx hb dJ5_init_d00df_7 (by decide) (fun c9 => absurd c9 (by decide)) (fun _ => ?_)
  refine lv_aload_n hx hb dJ5_init_d00df_10 rfl (lv_at hl 0 rfl) ?_
  refine lv_iload_n hx hb dJ5_init_d00df_11 rfl (lv_at hl 1 rfl) ?_
  refine va_newa (atype := .byte) hx hb (hts (.arrayClass .byte) (List.mem_of_getElem? (i := 5) rfl)) (ty := .byte) rfl hK hP hD hS hA (N' := 16) (a0 := (16, .inl (fun _ => 0))) (fun _ => rfl) (by decide) (by decide) (by decide) (Nat.le_of_ble_eq_true rfl) (Nat.le_of_ble_eq_true rfl) dJ5_init_d00df_12 (fun q k H hK hP hD hS => ?_)
  have hK : va_K D vwC7 [(k, .byte)] s := hK
  have hP : va_P D vwC7 [(aB, .inr (6, [.null, .int 0, .int 0, .int 0])), (q, .inl (k, 16, .inl (fun _ => 0)))] H := hP
  have hD : va_D A [(aB, .inr (6, [.null, .int 0, .int 0, .int 0])), (q, .inl (k, 16, .inl (fun _ => 0)))] := hD
  refine va_put (D := D) (ci := 6) (v := .ref q) (ty := .array .byte) (C := RJ4) (T := TJ4) (N := 4) hx hb hts (fun _ h => List.mem_cons_of_mem _ (List.mem_append_right _ h)) tyJ4 tyJ4_ok nmJ4 hown hK hP hD hS 0 rfl rfl 0 (by decide) (hts (.fieldLink RJ5 15 "java/lang/AbstractStringBuilder" "value" "[B") (List.mem_of_getElem? (i := 6) rfl)) (fun _ h9 => h9) rfl  (by decide +kernel) rfl rfl (Nat.le_of_ble_eq_true rfl) dJ5_init_d00df_14 (fun H locs hP hD hS => ?_)
  have hP : va_P D vwC7 [(aB, .inr (6, [.ref q, .int 0, .int 0, .int 0])), (q, .inl (k, 16, .inl (fun _ => 0)))] H := hP
  have hD : va_D A [(aB, .inr (6, [.ref q, .int 0, .int 0, .int 0])), (q, .inl (k, 16, .inl (fun _ => 0)))] := hD
  refine lv_aload_n hx hb dJ5_init_d00df_17 rfl (lv_at hl 0 rfl) ?_
  refine lv_iconst (v := (0 : Int32)) hx hb dJ5_init_d00df_18 (by decide) ?_
  refine va_put (D := D) (ci := 6) (v := .int (0 : Int32)) (ty := .byte) (C := RJ4) (T := TJ4) (N := 4) hx hb hts (fun _ h => List.mem_cons_of_mem _ (List.mem_append_right _ h)) tyJ4 tyJ4_ok nmJ4 hown hK hP hD hS 0 rfl rfl 1 (by decide) (hts (.fieldLink RJ5 22 "java/lang/AbstractStringBuilder" "coder" "B") (List.mem_of_getElem? (i := 7) rfl)) (fun _ h9 => h9) rfl  (by decide +kernel) rfl rfl (Nat.le_of_ble_eq_true rfl) dJ5_init_d00df_19 (fun H locs hP hD hS => ?_)
  have hP : va_P D vwC7 [(aB, .inr (6, [.ref q, .int 0, .int 0, .int 0])), (q, .inl (k, 16, .inl (fun _ => 0)))] H := hP
  have hD : va_D A [(aB, .inr (6, [.ref q, .int 0, .int 0, .int 0])), (q, .inl (k, 16, .inl (fun _ => 0)))] := hD
  refine lv_goto (tgt := 38) hx hb dJ5_init_d00df_22 (by decide) ?_
  exact W.widen (k := 1) (n := 16) (Nat.le_of_ble_eq_true rfl) (Nat.le_of_ble_eq_true rfl) (W.vret hx hb hr (fun t ht hW => ⟨⟨(), rfl, trivial, q, k, by rw [ht]; exact hP, va_K.moved hW.alike hK, hD⟩, hS.F ht⟩) hS.2.2 dJ5_init_d00df_38 hlocks)
abbrev RM_J4_init : Room := { frames := 2, cells := 1, slots := 16, locals := 40 }
set_option maxHeartbeats 4000000 in
set_option maxRecDepth 100000 in
theorem c_J4_init (l : Launch) (D : va_G) (aB : Nat) (sz : Nat) : Met l yJ4_init_da8c8 wsJ4_init_da8c8 RM_J4_init (PC D [] [(aB, .inr (6, [.null, .int 0, .int 0, .int 0]))] [.ref aB] sz) (va_Qv (fun (_ : Unit) => True) (fun _ t => ∃ (q : Nat), ∃ (k : Nat), BT D [(k, .byte)] ((va_A [(aB, .inr (6, [.null, .int 0, .int 0, .int 0]))] sz)) [(aB, .inr (6, [.ref q, .int 0, .int 0, .int 0])), (q, .inl (k, 16, .inl (fun _ => 0)))] t) ((va_A [(aB, .inr (6, [.null, .int 0, .int 0, .int 0]))] sz))) 1 16 (va_A [(aB, .inr (6, [.null, .int 0, .int 0, .int 0]))] sz) := by
  refine pro (Qf := fun A => (va_Qv (fun (_ : Unit) => True) (fun _ t => ∃ (q : Nat), ∃ (k : Nat), BT D [(k, .byte)] (A) [(aB, .inr (6, [.ref q, .int 0, .int 0, .int 0])), (q, .inl (k, 16, .inl (fun _ => 0)))] t) (A))) (cc := cJ4_init_da8c8) (maxL := 1) (ret := none) (by decide +kernel) rfl (Nat.le_of_ble_eq_true rfl) ?_
  intro p e s m args below meth c hx hb hr hts hown hlocks hml hini hK A hA hE hP hD hS ls hl
  have hown : s.vm.findClass RJ4 = some m.cls := hown
  have hl : lv_has ls 1 [(0, .ref aB)] := hl
  refine lv_aload_n hx hb dJ4_init_da8c8_0 rfl (lv_at hl 0 rfl) ?_
  refine lv_bipush (v := (16 : Int32)) hx hb dJ4_init_da8c8_1 (by decide) ?_
  have hFc := va_free (wc := [(aB, .inr (6, [.null, .int 0, .int 0, .int 0]))]) hD hS hA [0] rfl
  refine va_callv (va_runI (As := [.int 16]) (rest := []) ⟨hx, hb, hml, hown, hts⟩ (c_J5_init l D aB s.heap.size) (cwI 1 hts gJ4_init_da8c8_J5_init_d00df rfl rfl rfl (hts (.initialized RJ5) (List.mem_of_getElem? (i := 3) rfl)) (hts (.methodLink RJ4 1 yJ5_init_d00df) (List.mem_of_getElem? (i := 1) rfl)) (hts (.instanceMethod yJ5_init_d00df) (List.mem_of_getElem? (i := 2) rfl)) rfl (by decide +kernel) ⟨(Nat.le_of_ble_eq_true rfl), (Nat.le_of_ble_eq_true rfl)⟩) (prS (As := (.ref aB :: [.int 16])) hE (hK.sub (tys' := []) [] rfl) hP hD hS hA [0] rfl rfl) rfl rfl hl.1 rfl (lv_room (Nat.le_of_ble_eq_true rfl)) dJ4_init_da8c8_3 ⟨(Nat.le_of_ble_eq_true rfl), (Nat.le_of_ble_eq_true rfl)⟩) hS (fun q _ h => hFc q h) hFc (fun u t H1 locs ht hvm hw hB hz1 hk1 hS => ?_)
  obtain ⟨q, k, hP1, hK1, hD1⟩ := hB
  rw [ht] at hP1
  have hK1 := va_K.moved hvm.symm hK1
  obtain ⟨hP, hD⟩ := va_join (wr := []) (w1 := [(aB, .inr (6, [.ref q, .int 0, .int 0, .int 0])), (q, .inl (k, 16, .inl (fun _ => 0)))]) hP hD [0] [] rfl rfl (by decide) (by decide) hk1 hFc hP1 hD1
  exact W.widen (k := 1) (n := 16) (Nat.le_of_ble_eq_true rfl) (Nat.le_of_ble_eq_true rfl) (W.vret hx hb hr (fun t ht hW => ⟨⟨(), rfl, trivial, q, k, by rw [ht]; exact hP, va_K.moved hW.alike hK1, hD⟩, hS.F ht⟩) hS.2.2 dJ4_init_da8c8_6 hlocks)
abbrev RM_copyB : Room := { frames := 2, cells := 1, slots := 16, locals := 141 }
set_option maxHeartbeats 4000000 in
set_option maxRecDepth 100000 in
theorem c_copyB (l : Launch) (D : va_G) (kB : Nat) (aBv : Nat) (bV : Nat → Int32) (n : Nat) (hn : n < 16) (hfit : ∀ i, i < n → fits .byte (.int (bV i)) = true) (sz : Nat) : Met l yJ7_copyOfRangeByte_39247 wsJ7_copyOfRangeByte_39247 RM_copyB (PC D [(kB, .byte)] [(aBv, .inl (kB, 16, .inl bV))] [.ref aBv, .int 0, .int (nI n)] sz) (va_Qr (fun (_ : Unit) => True) (fun _ r t => ∃ (k2 : Nat), BT D [(kB, .byte), (k2, .byte)] ((va_A [(aBv, .inl (kB, 16, .inl bV))] sz)) [(aBv, .inl (kB, 16, .inl bV)), (r, .inl (k2, n, .inl (va_cpy bV (fun _ => 0) 0 0 n)))] t) ((va_A [(aBv, .inl (kB, 16, .inl bV))] sz))) 1 16 (va_A [(aBv, .inl (kB, 16, .inl bV))] sz) := by
  refine pro (Qf := fun A => (va_Qr (fun (_ : Unit) => True) (fun _ r t => ∃ (k2 : Nat), BT D [(kB, .byte), (k2, .byte)] (A) [(aBv, .inl (kB, 16, .inl bV)), (r, .inl (k2, n, .inl (va_cpy bV (fun _ => 0) 0 0 n)))] t) (A))) (cc := cJ7_copyOfRangeByte_39247) (maxL := 5) (ret := (some (.array .byte))) (by decide +kernel) rfl (Nat.le_of_ble_eq_true rfl) ?_
  intro p e s m args below meth c hx hb hr hts hown hlocks hml hini hK A hA hE hP hD hS ls hl
  have hown : s.vm.findClass RJ7 = some m.cls := hown
  have hl : lv_has ls 5 [(0, .ref aBv), (1, .int 0), (2, .int (nI n))] := hl
  have hv : f_J7_checkLength_df160 0 (nI n) = some () := by rw [f_J7_checkLength_df160, if_pos (nI_pos' (by omega))]
  have e0 : nI n - (0 : Int32) = nI n := by rw [show (0 : Int32) = nI 0 from rfl, pk_sub (by omega), Nat.sub_zero]
  have ec : (nI n).toNatClampNeg = n := nI_clamp (by omega)
  refine lv_iload_n hx hb dJ7_copyOfRangeByte_39247_0 rfl (lv_at hl 1 rfl) ?_
  refine lv_iload_n hx hb dJ7_copyOfRangeByte_39247_1 rfl (lv_at hl 2 rfl) ?_
  refine call_v (wr := [(aBv, .inl (kB, 16, .inl bV))]) (wn := [(aBv, .inl (kB, 16, .inl bV))]) (va_runS (As := [.int 0, .int (nI n)]) (rest := []) ⟨hx, hb, hml, hown, hts⟩ (c_J7_checkLength_df160 l D (fun _ => kB) [(kB, .byte)] 0 (nI n) () hv s.heap.size) (va_cwS 2 hts gJ7_copyOfRangeByte_39247_J7_checkLength_df160 rfl rfl rfl (by decide +kernel) ⟨(Nat.le_of_ble_eq_true rfl), (Nat.le_of_ble_eq_true rfl)⟩) (prS hE hK hP hD hS hA [] rfl rfl) rfl rfl hl.1 rfl (lv_room (Nat.le_of_ble_eq_true rfl)) dJ7_copyOfRangeByte_39247_2 ⟨(Nat.le_of_ble_eq_true rfl), (Nat.le_of_ble_eq_true rfl)⟩) hP hD hS hA [] [0] [0] rfl rfl rfl (by decide) rfl rfl (fun H locs hP hD hS => ?_)
  refine lv_iload_n hx hb dJ7_copyOfRangeByte_39247_5 rfl (lv_at hl 2 rfl) ?_
  refine lv_iload_n hx hb dJ7_copyOfRangeByte_39247_6 rfl (lv_at hl 1 rfl) ?_
  refine lv_isub hx hb dJ7_copyOfRangeByte_39247_7 ?_
  rw [e0]
  refine lv_istore_n (lv' := [(3, .int (nI n)), (0, .ref aBv), (1, .int 0), (2, .int (nI n))]) hx hb dJ7_copyOfRangeByte_39247_8 rfl hl (by decide) rfl (fun ls hl => ?_)
  refine lv_iload_n hx hb dJ7_copyOfRangeByte_39247_9 rfl (lv_at hl 0 rfl) ?_
  refine va_newa (atype := .byte) hx hb (hts (.arrayClass .byte) (List.mem_of_getElem? (i := 1) rfl)) (ty := .byte) rfl hK hP hD hS hA (N' := n) (a0 := (n, .inl (fun _ => 0))) (fun _ => rfl) (nI_pos (by omega)) ec (by show n * 1 ≤ 536870912; omega) (Nat.le_of_ble_eq_true rfl) (by show 0 + 0 + n ≤ 16; omega) dJ7_copyOfRangeByte_39247_10 (fun r k2 H hK hP hD hS => ?_)
  have hK : va_K D vwC7 [(kB, .byte), (k2, .byte)] s := hK
  have hP : va_P D vwC7 [(aBv, .inl (kB, 16, .inl bV)), (r, .inl (k2, n, .inl (fun _ => 0)))] H := hP
  have hD : va_D A [(aBv, .inl (kB, 16, .inl bV)), (r, .inl (k2, n, .inl (fun _ => 0)))] := hD
  refine lv_astore (lv' := [(4, .ref r), (3, .int (nI n)), (0, .ref aBv), (1, .int 0), (2, .int (nI n))]) hx hb dJ7_copyOfRangeByte_39247_12 hl (by decide) rfl (fun ls hl => ?_)
  refine lv_aload_n hx hb dJ7_copyOfRangeByte_39247_14 rfl (lv_at hl 2 rfl) ?_
  refine lv_iload_n hx hb dJ7_copyOfRangeByte_39247_15 rfl (lv_at hl 3 rfl) ?_
  refine lv_aload hx hb dJ7_copyOfRangeByte_39247_16 (lv_at hl 0 rfl) ?_
  refine lv_iconst (v := (0 : Int32)) hx hb dJ7_copyOfRangeByte_39247_18 (by decide) ?_
  refine lv_aload_n hx hb dJ7_copyOfRangeByte_39247_19 rfl (lv_at hl 2 rfl) ?_
  refine va_alen hx hb hK hP 0 0 rfl rfl (v := (16 : Int32)) rfl dJ7_copyOfRangeByte_39247_20 ?_
  refine lv_iload_n hx hb dJ7_copyOfRangeByte_39247_21 rfl (lv_at hl 3 rfl) ?_
  refine lv_isub hx hb dJ7_copyOfRangeByte_39247_22 ?_
  refine lv_iload_n hx hb dJ7_copyOfRangeByte_39247_23 rfl (lv_at hl 1 rfl) ?_
  refine va_mmin hx hb (hml.trans hl.1.symm) hown (hts (.methodLink RJ7 304 Lib.Math.min.name) (List.mem_of_getElem? (i := 2) rfl)) (hts (.static Lib.Math.min.name) (List.mem_of_getElem? (i := 3) rfl)) (hts (.initialized "java/lang/Math") (List.mem_of_getElem? (i := 4) rfl)) (hts (.code Lib.Math.min.name Lib.Math.min.code 2 (some .int)) (List.mem_of_getElem? (i := 5) rfl)) (Nat.le_of_ble_eq_true rfl) (Nat.le_of_ble_eq_true rfl) (Nat.le_of_ble_eq_true rfl) (by show 0 + 0 + n ≤ 16; omega) dJ7_copyOfRangeByte_39247_24 ?_
  rw [show (if nI n < (16 : Int32) - 0 then nI n else (16 : Int32) - 0) = nI n from if_pos (nI_lt (b := 16) hn (by decide))]
  refine W.eq (g2 := F0 m 27 ls [.int (nI n), .int (0 : Int32), .ref r, .int 0, .ref aBv]) rfl ?_
  refine va_copyi hx hb (hml.trans hl.1.symm) hown (hts (.methodLink RJ7 150 arraycopyName) (List.mem_of_getElem? (i := 6) rfl)) (hts (.native arraycopyName) (List.mem_of_getElem? (i := 7) rfl)) (hts (.static arraycopyName) (List.mem_of_getElem? (i := 8) rfl)) (hts (.initialized "java/lang/System") (List.mem_of_getElem? (i := 9) rfl)) hK hP hD hS 0 1 0 1 rfl rfl rfl rfl rfl (by decide) (by decide) (nI_pos (by omega)) (by rw [ec]; show 0 + n ≤ 16; omega) (by rw [ec]; show 0 + n ≤ n; omega) (fun i hi => by rw [ec] at hi; show fits .byte (.int (bV (0 + i))) = true; rw [Nat.zero_add]; exact hfit i hi) (Nat.le_of_ble_eq_true rfl) (by decide +kernel) dJ7_copyOfRangeByte_39247_27 (fun H locs hP hD hS => ?_)
  rw [ec] at hP hD
  have hP : va_P D vwC7 [(aBv, .inl (kB, 16, .inl bV)), (r, .inl (k2, n, .inl (va_cpy bV (fun _ => 0) 0 0 n)))] H := hP
  have hD : va_D A [(aBv, .inl (kB, 16, .inl bV)), (r, .inl (k2, n, .inl (va_cpy bV (fun _ => 0) 0 0 n)))] := hD
  refine lv_aload hx hb dJ7_copyOfRangeByte_39247_30 (lv_at hl 0 rfl) ?_
  exact W.widen (k := 1) (n := 16) (Nat.le_of_ble_eq_true rfl) (by show 0 + 0 + n ≤ 16; omega) (W.aret hx hb hr (Or.inr ⟨_, rfl⟩) (Or.inr ⟨_, rfl⟩) (fun t ht hW => ⟨⟨(), r, rfl, trivial, k2, by rw [ht]; exact hP, va_K.moved hW.alike hK, hD⟩, hS.F ht⟩) hS.2.2 dJ7_copyOfRangeByte_39247_32 hlocks)
abbrev RM_copyR : Room := { frames := RM_copyB.frames + 1, cells := 1, slots := 16, locals := RM_copyB.locals + 40 }
set_option maxHeartbeats 4000000 in
set_option maxRecDepth 100000 in
theorem c_copyR (l : Launch) (D : va_G) (kB : Nat) (aBv : Nat) (bV : Nat → Int32) (n : Nat) (hn : n < 16) (hfit : ∀ i, i < n → fits .byte (.int (bV i)) = true) (sz : Nat) : Met l yJ7_copyOfRange_39247 wsJ7_copyOfRange_39247 RM_copyR (PC D [(kB, .byte)] [(aBv, .inl (kB, 16, .inl bV))] [.ref aBv, .int 0, .int (nI n)] sz) (va_Qr (fun (_ : Unit) => True) (fun _ r t => ∃ (k2 : Nat), BT D [(kB, .byte), (k2, .byte)] ((va_A [(aBv, .inl (kB, 16, .inl bV))] sz)) [(aBv, .inl (kB, 16, .inl bV)), (r, .inl (k2, n, .inl (va_cpy bV (fun _ => 0) 0 0 n)))] t) ((va_A [(aBv, .inl (kB, 16, .inl bV))] sz))) 1 16 (va_A [(aBv, .inl (kB, 16, .inl bV))] sz) := by
  refine pro (Qf := fun A => (va_Qr (fun (_ : Unit) => True) (fun _ r t => ∃ (k2 : Nat), BT D [(kB, .byte), (k2, .byte)] (A) [(aBv, .inl (kB, 16, .inl bV)), (r, .inl (k2, n, .inl (va_cpy bV (fun _ => 0) 0 0 n)))] t) (A))) (cc := cJ7_copyOfRange_39247) (maxL := 3) (ret := (some (.array .byte))) (by decide +kernel) rfl (Nat.le_of_ble_eq_true rfl) ?_
  intro p e s m args below meth c hx hb hr hts hown hlocks hml hini hK A hA hE hP hD hS ls hl
  have hown : s.vm.findClass RJ7 = some m.cls := hown
  have hl : lv_has ls 3 [(0, .ref aBv), (1, .int 0), (2, .int (nI n))] := hl
  refine lv_iload_n hx hb dJ7_copyOfRange_39247_0 rfl (lv_at hl 1 rfl) ?_
  refine lv_if_ne (tgt := 10) hx hb dJ7_copyOfRange_39247_1 (by decide) (fun c9 => absurd rfl c9) (fun _ => ?_)
  refine lv_iload_n hx hb dJ7_copyOfRange_39247_4 rfl (lv_at hl 2 rfl) ?_
  refine lv_aload_n hx hb dJ7_copyOfRange_39247_5 rfl (lv_at hl 0 rfl) ?_
  refine va_alen hx hb hK hP 0 0 rfl rfl (v := (16 : Int32)) rfl dJ7_copyOfRange_39247_6 ?_
  refine lv_icmp_eq (tgt := 17) hx hb dJ7_copyOfRange_39247_7 (by decide) (fun c9 => absurd ((nI_eq (b := 16) (by omega) (by decide)).mp c9) (by omega)) (fun _ => ?_)
  refine lv_aload_n hx hb dJ7_copyOfRange_39247_10 rfl (lv_at hl 0 rfl) ?_
  refine lv_iload_n hx hb dJ7_copyOfRange_39247_11 rfl (lv_at hl 1 rfl) ?_
  refine lv_iload_n hx hb dJ7_copyOfRange_39247_12 rfl (lv_at hl 2 rfl) ?_
  have hFc := va_free (wc := [(aBv, .inl (kB, 16, .inl bV))]) hD hS hA [0] rfl
  refine va_callr (va_runS (As := [.ref aBv, .int 0, .int (nI n)]) (rest := []) ⟨hx, hb, hml, hown, hts⟩ (c_copyB l D kB aBv bV n hn hfit s.heap.size) (va_cwS 3 hts gJ7_copyOfRange_39247_J7_copyOfRangeByte_39247 rfl rfl rfl (by decide +kernel) ⟨(Nat.le_of_ble_eq_true rfl), (Nat.le_of_ble_eq_true rfl)⟩) (prS hE hK hP hD hS hA [0] rfl rfl) rfl rfl hl.1 rfl (lv_room (Nat.le_of_ble_eq_true rfl)) dJ7_copyOfRange_39247_13 ⟨(Nat.le_of_ble_eq_true rfl), (Nat.le_of_ble_eq_true rfl)⟩) hS (fun q _ h => hFc q h) hFc (fun u r t H1 locs ht hvm hw hB hz1 hk1 hS => ?_)
  obtain ⟨k2, hP1, hK1, hD1⟩ := hB
  rw [ht] at hP1
  have hK1 := va_K.moved hvm.symm hK1
  obtain ⟨hP, hD⟩ := va_join (wr := []) (w1 := [(aBv, .inl (kB, 16, .inl bV)), (r, .inl (k2, n, .inl (va_cpy bV (fun _ => 0) 0 0 n)))]) hP hD [0] [] rfl rfl (by decide) (by decide) hk1 hFc hP1 hD1
  exact W.widen (k := 1) (n := 16) (Nat.le_of_ble_eq_true rfl) (Nat.le_of_ble_eq_true rfl) (W.aret hx hb hr (Or.inr ⟨_, rfl⟩) (Or.inr ⟨_, rfl⟩) (fun t ht hW => ⟨⟨(), r, rfl, trivial, k2, by rw [ht]; exact hP, va_K.moved hW.alike hK1, hD⟩, hS.F ht⟩) hS.2.2 dJ7_copyOfRange_39247_16 hlocks)
abbrev RM_S2 : Room := { frames := RM_copyR.frames + 2, cells := 1, slots := 16, locals := RM_copyR.locals + 200 }
set_option maxHeartbeats 4000000 in
set_option maxRecDepth 100000 in
theorem c_S2 (l : Launch) (D : va_G) (kB : Nat) (aB aBv aW : Nat) (bM : Int32) (bV : Nat → Int32) (n : Nat) (hn : n < 16) (hfit : ∀ i, i < n → fits .byte (.int (bV i)) = true) (sz : Nat) : Met l yJ0_init_db425 wsJ0_init_db425 RM_S2 (PC D [(kB, .byte)] [(aB, .inr (6, [.ref aBv, .int 0, .int bM, .int (nI n)])), (aBv, .inl (kB, 16, .inl bV)), (aW, .inr (7, [.null, .int 0, .int 0, .int 0]))] [.ref aW, .ref aB, .null] sz) (va_Qv (fun (_ : Unit) => True) (fun _ t => ∃ (q : Nat), ∃ (k2 : Nat), BT D [(kB, .byte), (k2, .byte)] ((va_A [(aB, .inr (6, [.ref aBv, .int 0, .int bM, .int (nI n)])), (aBv, .inl (kB, 16, .inl bV)), (aW, .inr (7, [.null, .int 0, .int 0, .int 0]))] sz)) [(aB, .inr (6, [.ref aBv, .int 0, .int bM, .int (nI n)])), (aBv, .inl (kB, 16, .inl bV)), (aW, .inr (7, [.ref q, .int 0, .int 0, .int 0])), (q, .inl (k2, n, .inl (va_cpy bV (fun _ => 0) 0 0 n)))] t) ((va_A [(aB, .inr (6, [.ref aBv, .int 0, .int bM, .int (nI n)])), (aBv, .inl (kB, 16, .inl bV)), (aW, .inr (7, [.null, .int 0, .int 0, .int 0]))] sz))) 1 16 (va_A [(aB, .inr (6, [.ref aBv, .int 0, .int bM, .int (nI n)])), (aBv, .inl (kB, 16, .inl bV)), (aW, .inr (7, [.null, .int 0, .int 0, .int 0]))] sz) := by
  refine pro (Qf := fun A => (va_Qv (fun (_ : Unit) => True) (fun _ t => ∃ (q : Nat), ∃ (k2 : Nat), BT D [(kB, .byte), (k2, .byte)] (A) [(aB, .inr (6, [.ref aBv, .int 0, .int bM, .int (nI n)])), (aBv, .inl (kB, 16, .inl bV)), (aW, .inr (7, [.ref q, .int 0, .int 0, .int 0])), (q, .inl (k2, n, .inl (va_cpy bV (fun _ => 0) 0 0 n)))] t) (A))) (cc := cJ0_init_db425) (maxL := 5) (ret := none) (by decide +kernel) rfl (Nat.le_of_ble_eq_true rfl) ?_
  intro p e s m args below meth c hx hb hr hts hown hlocks hml hini hK A hA hE hP hD hS ls hl
  have hin : meth.name = "<init>" := hini rfl
  have hown : s.vm.findClass RJ0 = some m.cls := hown
  have hl : lv_has ls 5 [(0, .ref aW), (1, .ref aB), (2, .null)] := hl
  refine lv_aload_n hx hb dJ0_init_db425_0 rfl (lv_at hl 0 rfl) ?_
  refine W.objInit hx hb hown (hts (.methodLink RJ0 1 objectInit) (List.mem_of_getElem? (i := 1) rfl)) (hts (.instanceMethod objectInit) (List.mem_of_getElem? (i := 2) rfl)) (hts (.code objectInit ⟨#[0xb1]⟩ 1 none) (List.mem_of_getElem? (i := 3) rfl)) rfl (by rw [hml]; exact hl.1) rfl dJ0_init_db425_1 (Nat.le_of_ble_eq_true rfl) (Nat.le_of_ble_eq_true rfl) ?_
  refine W.eq (g2 := F0 m 4 ls []) rfl ?_
  refine lv_aload_n hx hb dJ0_init_db425_4 rfl (lv_at hl 1 rfl) ?_
  refine call_r (wr := [(aBv, .inl (kB, 16, .inl bV)), (aW, .inr (7, [.null, .int 0, .int 0, .int 0]))]) (wn := [(aB, .inr (6, [.ref aBv, .int 0, .int bM, .int (nI n)])), (aBv, .inl (kB, 16, .inl bV)), (aW, .inr (7, [.null, .int 0, .int 0, .int 0]))]) (va_runU (As := []) (rest := []) ⟨hx, hb, hml, hown, hts⟩ (c_J5_getValue_6d5f1 l D (fun _ => kB) aB aBv 0 bM (nI n) () (by rw [f_J5_getValue_6d5f1]) s.heap.size) (va_cwU 0 hts gJ0_init_db425_J5_getValue_6d5f1_u552J4 rfl rfl rfl rfl (by decide +kernel) ⟨(Nat.le_of_ble_eq_true rfl), (Nat.le_of_ble_eq_true rfl)⟩) (prV hE hK hP hD hS hA [0] rfl rfl 6 0 rfl rfl rfl) rfl rfl hl.1 rfl (lv_room (Nat.le_of_ble_eq_true rfl)) dJ0_init_db425_5 ⟨(Nat.le_of_ble_eq_true rfl), (Nat.le_of_ble_eq_true rfl)⟩) hP hD hS hA [0] [1, 2] [2, 0, 1] rfl rfl rfl (by decide) rfl rfl (fun H locs hP hD hS => ?_)
  refine lv_astore_n (lv' := [(3, .ref aBv), (0, .ref aW), (1, .ref aB), (2, .null)]) hx hb dJ0_init_db425_8 rfl hl (by decide) rfl (fun ls hl => ?_)
  refine lv_aload_n hx hb dJ0_init_db425_9 rfl (lv_at hl 2 rfl) ?_
  refine call_i (wr := [(aBv, .inl (kB, 16, .inl bV)), (aW, .inr (7, [.null, .int 0, .int 0, .int 0]))]) (wn := [(aB, .inr (6, [.ref aBv, .int 0, .int bM, .int (nI n)])), (aBv, .inl (kB, 16, .inl bV)), (aW, .inr (7, [.null, .int 0, .int 0, .int 0]))]) (va_runU (As := []) (rest := []) ⟨hx, hb, hml, hown, hts⟩ (c_J4_length_8abf5 l D (fun _ => kB) aB aBv 0 bM (nI n) (nI n, ()) (by rw [f_J4_length_8abf5, f_J5_length_8abf5]; rfl) H.size) (va_cwO 0 hts gJ0_init_db425_J4_length_8abf5_u549J4 rfl rfl rfl (List.mem_of_getElem? (i := 25) rfl) (by decide +kernel) ⟨(Nat.le_of_ble_eq_true rfl), (Nat.le_of_ble_eq_true rfl)⟩) (prV hE hK hP hD hS hA [0] rfl rfl 6 0 rfl rfl rfl) rfl rfl hl.1 rfl (lv_room (Nat.le_of_ble_eq_true rfl)) dJ0_init_db425_10 ⟨(Nat.le_of_ble_eq_true rfl), (Nat.le_of_ble_eq_true rfl)⟩) hP hD hS hA [0] [1, 2] [2, 0, 1] rfl rfl rfl (by decide) rfl rfl (fun H locs hP hD hS => ?_)
  refine lv_istore (lv' := [(4, .int (nI n)), (3, .ref aBv), (0, .ref aW), (1, .ref aB), (2, .null)]) hx hb dJ0_init_db425_13 hl (by decide) rfl (fun ls hl => ?_)
  refine lv_aload_n hx hb dJ0_init_db425_15 rfl (lv_at hl 3 rfl) ?_
  refine call_i (wr := [(aBv, .inl (kB, 16, .inl bV)), (aW, .inr (7, [.null, .int 0, .int 0, .int 0]))]) (wn := [(aB, .inr (6, [.ref aBv, .int 0, .int bM, .int (nI n)])), (aBv, .inl (kB, 16, .inl bV)), (aW, .inr (7, [.null, .int 0, .int 0, .int 0]))]) (va_runU (As := []) (rest := []) ⟨hx, hb, hml, hown, hts⟩ (c_J5_isLatin1_aae02 l D (fun _ => kB) aB aBv 0 bM (nI n) (1, ()) (by rw [f_J5_isLatin1_aae02]; rfl) H.size) (va_cwU 0 hts gJ0_init_db425_J5_isLatin1_aae02_u1047J4 rfl rfl rfl rfl (by decide +kernel) ⟨(Nat.le_of_ble_eq_true rfl), (Nat.le_of_ble_eq_true rfl)⟩) (prV hE hK hP hD hS hA [0] rfl rfl 6 0 rfl rfl rfl) rfl rfl hl.1 rfl (lv_room (Nat.le_of_ble_eq_true rfl)) dJ0_init_db425_16 ⟨(Nat.le_of_ble_eq_true rfl), (Nat.le_of_ble_eq_true rfl)⟩) hP hD hS hA [0] [1, 2] [2, 0, 1] rfl rfl rfl (by decide) rfl rfl (fun H locs hP hD hS => ?_)
  refine lv_if_eq (tgt := 41) hx hb dJ0_init_db425_19 (by decide) (fun c9 => absurd c9 (by decide)) (fun _ => ?_)
  refine lv_aload_n hx hb dJ0_init_db425_22 rfl (lv_at hl 2 rfl) ?_
  refine lv_iconst (v := (0 : Int32)) hx hb dJ0_init_db425_23 (by decide) ?_
  refine va_putF (D := D) (ci := 7) (v := .int (0 : Int32)) (ty := .byte) (C := RJ0) (T := TJ0) (N := 4) hx hb hts (fun _ h => List.mem_cons_of_mem _ (List.mem_append_left _ (List.mem_append_right _ h))) tyJ0 tyJ0_ok nmJ0 hown hK hP hD hS 2 rfl rfl 1 (by decide) (hts (.fieldLink RJ0 15 "java/lang/String" "coder" "B") (List.mem_of_getElem? (i := 4) rfl)) (fun _ h9 => h9) rfl hin rfl (by decide +kernel) rfl rfl (Nat.le_of_ble_eq_true rfl) dJ0_init_db425_24 (fun H locs hP hD hS => ?_)
  have hP : va_P D vwC7 [(aB, .inr (6, [.ref aBv, .int 0, .int bM, .int (nI n)])), (aBv, .inl (kB, 16, .inl bV)), (aW, .inr (7, [.null, .int 0, .int 0, .int 0]))] H := hP
  have hD : va_D A [(aB, .inr (6, [.ref aBv, .int 0, .int bM, .int (nI n)])), (aBv, .inl (kB, 16, .inl bV)), (aW, .inr (7, [.null, .int 0, .int 0, .int 0]))] := hD
  refine lv_aload_n hx hb dJ0_init_db425_27 rfl (lv_at hl 2 rfl) ?_
  refine lv_aload_n hx hb dJ0_init_db425_28 rfl (lv_at hl 1 rfl) ?_
  refine lv_iconst (v := (0 : Int32)) hx hb dJ0_init_db425_29 (by decide) ?_
  refine lv_iload hx hb dJ0_init_db425_30 (lv_at hl 0 rfl) ?_
  have hFc := va_free (wc := [(aBv, .inl (kB, 16, .inl bV))]) hD hS hA [1] rfl
  refine va_callr (va_runS (As := [.ref aBv, .int (0 : Int32), .int (nI n)]) (rest := [.ref aW]) ⟨hx, hb, hml, hown, hts⟩ (c_copyR l D kB aBv bV n hn hfit H.size) (va_cwS 3 hts gJ0_init_db425_J7_copyOfRange_39247 rfl rfl rfl (by decide +kernel) ⟨(Nat.le_of_ble_eq_true rfl), (Nat.le_of_ble_eq_true rfl)⟩) (prS hE hK hP hD hS hA [1] rfl rfl) rfl rfl hl.1 rfl (lv_room (Nat.le_of_ble_eq_true rfl)) dJ0_init_db425_32 ⟨(Nat.le_of_ble_eq_true rfl), (Nat.le_of_ble_eq_true rfl)⟩) hS (fun q _ h => hFc q h) hFc (fun u q t H1 locs ht hvm hw hB hz1 hk1 hS => ?_)
  obtain ⟨k2, hP1, hK1, hD1⟩ := hB
  rw [ht] at hP1
  have hK1 := va_K.moved hvm.symm hK1
  obtain ⟨hP, hD⟩ := va_join (wr := [(aB, .inr (6, [.ref aBv, .int 0, .int bM, .int (nI n)])), (aW, .inr (7, [.null, .int 0, .int 0, .int 0]))]) (w1 := [(aBv, .inl (kB, 16, .inl bV)), (q, .inl (k2, n, .inl (va_cpy bV (fun _ => 0) 0 0 n)))]) hP hD [1] [0, 2] rfl rfl (by decide) (by decide) hk1 hFc hP1 hD1
  generalize H1 = H at hP hS ⊢
  have hP : va_P D vwC7 [(aB, .inr (6, [.ref aBv, .int 0, .int bM, .int (nI n)])), (aW, .inr (7, [.null, .int 0, .int 0, .int 0])), (aBv, .inl (kB, 16, .inl bV)), (q, .inl (k2, n, .inl (va_cpy bV (fun _ => 0) 0 0 n)))] H := hP
  have hD : va_D A [(aB, .inr (6, [.ref aBv, .int 0, .int bM, .int (nI n)])), (aW, .inr (7, [.null, .int 0, .int 0, .int 0])), (aBv, .inl (kB, 16, .inl bV)), (q, .inl (k2, n, .inl (va_cpy bV (fun _ => 0) 0 0 n)))] := hD
  have hK := hK1
  refine va_putF (D := D) (ci := 7) (v := .ref q) (ty := .array .byte) (C := RJ0) (T := TJ0) (N := 4) hx hb hts (fun _ h => List.mem_cons_of_mem _ (List.mem_append_left _ (List.mem_append_right _ h))) tyJ0 tyJ0_ok nmJ0 hown hK hP hD hS 1 rfl rfl 0 (by decide) (hts (.fieldLink RJ0 9 "java/lang/String" "value" "[B") (List.mem_of_getElem? (i := 5) rfl)) (fun _ h9 => h9) rfl hin rfl (by decide +kernel) rfl rfl (Nat.le_of_ble_eq_true rfl) dJ0_init_db425_35 (fun H locs hP hD hS => ?_)
  have hP : va_P D vwC7 [(aB, .inr (6, [.ref aBv, .int 0, .int bM, .int (nI n)])), (aW, .inr (7, [.ref q, .int 0, .int 0, .int 0])), (aBv, .inl (kB, 16, .inl bV)), (q, .inl (k2, n, .inl (va_cpy bV (fun _ => 0) 0 0 n)))] H := hP
  have hD : va_D A [(aB, .inr (6, [.ref aBv, .int 0, .int bM, .int (nI n)])), (aW, .inr (7, [.ref q, .int 0, .int 0, .int 0])), (aBv, .inl (kB, 16, .inl bV)), (q, .inl (k2, n, .inl (va_cpy bV (fun _ => 0) 0 0 n)))] := hD
  refine lv_goto (tgt := 97) hx hb dJ0_init_db425_38 (by decide) ?_
  exact W.widen (k := 1) (n := 16) (Nat.le_of_ble_eq_true rfl) (Nat.le_of_ble_eq_true rfl) (W.vret hx hb hr (fun t ht hW => ⟨⟨(), rfl, trivial, q, k2, by rw [ht]; exact hP.sub [0, 2, 1, 3] rfl, va_K.moved hW.alike hK, hD.sub [0, 2, 1, 3] (by decide) rfl⟩, hS.F ht⟩) hS.2.2 dJ0_init_db425_97 hlocks)
abbrev RM_S1 : Room := { frames := RM_S2.frames + 1, cells := 1, slots := 16, locals := RM_S2.locals + 40 }
set_option maxHeartbeats 4000000 in
set_option maxRecDepth 100000 in
theorem c_S1 (l : Launch) (D : va_G) (kB : Nat) (aB aBv aW : Nat) (bM : Int32) (bV : Nat → Int32) (n : Nat) (hn : n < 16) (hfit : ∀ i, i < n → fits .byte (.int (bV i)) = true) (sz : Nat) : Met l yJ0_init_81219 wsJ0_init_81219 RM_S1 (PC D [(kB, .byte)] [(aB, .inr (6, [.ref aBv, .int 0, .int bM, .int (nI n)])), (aBv, .inl (kB, 16, .inl bV)), (aW, .inr (7, [.null, .int 0, .int 0, .int 0]))] [.ref aW, .ref aB] sz) (va_Qv (fun (_ : Unit) => True) (fun _ t => ∃ (q : Nat), ∃ (k2 : Nat), BT D [(kB, .byte), (k2, .byte)] ((va_A [(aB, .inr (6, [.ref aBv, .int 0, .int bM, .int (nI n)])), (aBv, .inl (kB, 16, .inl bV)), (aW, .inr (7, [.null, .int 0, .int 0, .int 0]))] sz)) [(aB, .inr (6, [.ref aBv, .int 0, .int bM, .int (nI n)])), (aBv, .inl (kB, 16, .inl bV)), (aW, .inr (7, [.ref q, .int 0, .int 0, .int 0])), (q, .inl (k2, n, .inl (va_cpy bV (fun _ => 0) 0 0 n)))] t) ((va_A [(aB, .inr (6, [.ref aBv, .int 0, .int bM, .int (nI n)])), (aBv, .inl (kB, 16, .inl bV)), (aW, .inr (7, [.null, .int 0, .int 0, .int 0]))] sz))) 1 16 (va_A [(aB, .inr (6, [.ref aBv, .int 0, .int bM, .int (nI n)])), (aBv, .inl (kB, 16, .inl bV)), (aW, .inr (7, [.null, .int 0, .int 0, .int 0]))] sz) := by
  refine pro (Qf := fun A => (va_Qv (fun (_ : Unit) => True) (fun _ t => ∃ (q : Nat), ∃ (k2 : Nat), BT D [(kB, .byte), (k2, .byte)] (A) [(aB, .inr (6, [.ref aBv, .int 0, .int bM, .int (nI n)])), (aBv, .inl (kB, 16, .inl bV)), (aW, .inr (7, [.ref q, .int 0, .int 0, .int 0])), (q, .inl (k2, n, .inl (va_cpy bV (fun _ => 0) 0 0 n)))] t) (A))) (cc := cJ0_init_81219) (maxL := 2) (ret := none) (by decide +kernel) rfl (Nat.le_of_ble_eq_true rfl) ?_
  intro p e s m args below meth c hx hb hr hts hown hlocks hml hini hK A hA hE hP hD hS ls hl
  have hown : s.vm.findClass RJ0 = some m.cls := hown
  have hl : lv_has ls 2 [(0, .ref aW), (1, .ref aB)] := hl
  refine lv_aload_n hx hb dJ0_init_81219_0 rfl (lv_at hl 0 rfl) ?_
  refine lv_aload_n hx hb dJ0_init_81219_1 rfl (lv_at hl 1 rfl) ?_
  refine lv_null hx hb dJ0_init_81219_2 ?_
  have hFc := va_free (wc := [(aB, .inr (6, [.ref aBv, .int 0, .int bM, .int (nI n)])), (aBv, .inl (kB, 16, .inl bV)), (aW, .inr (7, [.null, .int 0, .int 0, .int 0]))]) hD hS hA [0, 1, 2] rfl
  refine va_callv (va_runI (As := [.ref aB, .null]) (rest := []) ⟨hx, hb, hml, hown, hts⟩ (c_S2 l D kB aB aBv aW bM bV n hn hfit s.heap.size) (cwI 2 hts gJ0_init_81219_J0_init_db425 rfl rfl rfl (hts (.initialized RJ0) (List.mem_of_getElem? (i := 3) rfl)) (hts (.methodLink RJ0 489 yJ0_init_db425) (List.mem_of_getElem? (i := 1) rfl)) (hts (.instanceMethod yJ0_init_db425) (List.mem_of_getElem? (i := 2) rfl)) rfl (by decide +kernel) ⟨(Nat.le_of_ble_eq_true rfl), (Nat.le_of_ble_eq_true rfl)⟩) (prS (As := [.ref aW, .ref aB, .null]) hE hK hP hD hS hA [0, 1, 2] rfl rfl) rfl rfl hl.1 rfl (lv_room (Nat.le_of_ble_eq_true rfl)) dJ0_init_81219_3 ⟨(Nat.le_of_ble_eq_true rfl), (Nat.le_of_ble_eq_true rfl)⟩) hS (fun q _ h => hFc q h) hFc (fun u t H1 locs ht hvm hw hB hz1 hk1 hS => ?_)
  obtain ⟨q, k2, hP1, hK1, hD1⟩ := hB
  rw [ht] at hP1
  have hK1 := va_K.moved hvm.symm hK1
  obtain ⟨hP, hD⟩ := va_join (wr := []) (w1 := [(aB, .inr (6, [.ref aBv, .int 0, .int bM, .int (nI n)])), (aBv, .inl (kB, 16, .inl bV)), (aW, .inr (7, [.ref q, .int 0, .int 0, .int 0])), (q, .inl (k2, n, .inl (va_cpy bV (fun _ => 0) 0 0 n)))]) hP hD [0, 1, 2] [] rfl rfl (by decide) (by decide) hk1 hFc hP1 hD1
  exact W.widen (k := 1) (n := 16) (Nat.le_of_ble_eq_true rfl) (Nat.le_of_ble_eq_true rfl) (W.vret hx hb hr (fun t ht hW => ⟨⟨(), rfl, trivial, q, k2, by rw [ht]; exact hP, va_K.moved hW.alike hK1, hD⟩, hS.F ht⟩) hS.2.2 dJ0_init_81219_6 hlocks)
abbrev RM_ts : Room := { frames := RM_S1.frames + 1, cells := 2, slots := 20, locals := RM_S1.locals + 40 }
set_option maxHeartbeats 4000000 in
set_option maxRecDepth 100000 in
theorem c_ts (l : Launch) (D : va_G) (kB : Nat) (aB aBv : Nat) (bM : Int32) (bV : Nat → Int32) (n : Nat) (hn : n < 16) (hfit : ∀ i, i < n → fits .byte (.int (bV i)) = true) (sz : Nat) : Met l yJ4_toString_0e30d wsJ4_toString_0e30d RM_ts (PC D [(kB, .byte)] [(aB, .inr (6, [.ref aBv, .int 0, .int bM, .int (nI n)])), (aBv, .inl (kB, 16, .inl bV))] [.ref aB] sz) (va_Qr (fun (_ : Unit) => True) (fun _ r t => ∃ (q : Nat), ∃ (k2 : Nat), BT D [(kB, .byte), (k2, .byte)] ((va_A [(aB, .inr (6, [.ref aBv, .int 0, .int bM, .int (nI n)])), (aBv, .inl (kB, 16, .inl bV))] sz)) [(aB, .inr (6, [.ref aBv, .int 0, .int bM, .int (nI n)])), (aBv, .inl (kB, 16, .inl bV)), (r, .inr (7, [.ref q, .int 0, .int 0, .int 0])), (q, .inl (k2, n, .inl (va_cpy bV (fun _ => 0) 0 0 n)))] t) ((va_A [(aB, .inr (6, [.ref aBv, .int 0, .int bM, .int (nI n)])), (aBv, .inl (kB, 16, .inl bV))] sz))) 2 20 (va_A [(aB, .inr (6, [.ref aBv, .int 0, .int bM, .int (nI n)])), (aBv, .inl (kB, 16, .inl bV))] sz) := by
  refine pro (Qf := fun A => (va_Qr (fun (_ : Unit) => True) (fun _ r t => ∃ (q : Nat), ∃ (k2 : Nat), BT D [(kB, .byte), (k2, .byte)] (A) [(aB, .inr (6, [.ref aBv, .int 0, .int bM, .int (nI n)])), (aBv, .inl (kB, 16, .inl bV)), (r, .inr (7, [.ref q, .int 0, .int 0, .int 0])), (q, .inl (k2, n, .inl (va_cpy bV (fun _ => 0) 0 0 n)))] t) (A))) (cc := cJ4_toString_0e30d) (maxL := 1) (ret := (some (.object "java/lang/String"))) (by decide +kernel) rfl (Nat.le_of_ble_eq_true rfl) ?_
  intro p e s m args below meth c hx hb hr hts hown hlocks hml hini hK A hA hE hP hD hS ls hl
  have hown : s.vm.findClass RJ4 = some m.cls := hown
  have hl : lv_has ls 1 [(0, .ref aB)] := hl
  refine va_new (ci := 7) (fs := [.null, .int 0, .int 0, .int 0]) (C := RJ0) (T := TJ0) (N := 4) hx hb hts (fun _ h => List.mem_cons_of_mem _ (List.mem_append_left _ (List.mem_append_right _ h))) tyJ0 tyJ0_ok hown (hts (.classLink RJ4 18 RJ0) (List.mem_of_getElem? (i := 1) rfl)) (hts (.instantiable RJ0 4) (List.mem_of_getElem? (i := 2) rfl)) (hts (.initialized RJ0) (List.mem_of_getElem? (i := 3) rfl)) hK hP hD hS hA rfl (by decide) (Nat.le_of_ble_eq_true rfl) (Nat.le_of_ble_eq_true rfl) dJ4_toString_0e30d_0 (fun aW H hP hD hS => ?_)
  have hP : va_P D vwC7 [(aB, .inr (6, [.ref aBv, .int 0, .int bM, .int (nI n)])), (aBv, .inl (kB, 16, .inl bV)), (aW, .inr (7, [.null, .int 0, .int 0, .int 0]))] H := hP
  have hD : va_D A [(aB, .inr (6, [.ref aBv, .int 0, .int bM, .int (nI n)])), (aBv, .inl (kB, 16, .inl bV)), (aW, .inr (7, [.null, .int 0, .int 0, .int 0]))] := hD
  refine lv_dup hx hb dJ4_toString_0e30d_3 rfl ?_
  refine lv_aload_n hx hb dJ4_toString_0e30d_4 rfl (lv_at hl 0 rfl) ?_
  have hFc := va_free (wc := [(aB, .inr (6, [.ref aBv, .int 0, .int bM, .int (nI n)])), (aBv, .inl (kB, 16, .inl bV)), (aW, .inr (7, [.null, .int 0, .int 0, .int 0]))]) hD hS hA [0, 1, 2] rfl
  refine va_callv (va_runI (As := [.ref aB]) (rest := [.ref aW]) ⟨hx, hb, hml, hown, hts⟩ (c_S1 l D kB aB aBv aW bM bV n hn hfit H.size) (cwI 1 hts gJ4_toString_0e30d_J0_init_81219 rfl rfl rfl (hts (.initialized RJ0) (List.mem_of_getElem? (i := 3) rfl)) (hts (.methodLink RJ4 137 yJ0_init_81219) (List.mem_of_getElem? (i := 4) rfl)) (hts (.instanceMethod yJ0_init_81219) (List.mem_of_getElem? (i := 5) rfl)) rfl (by decide +kernel) ⟨(Nat.le_of_ble_eq_true rfl), (Nat.le_of_ble_eq_true rfl)⟩) (prS (As := [.ref aW, .ref aB]) hE hK hP hD hS hA [0, 1, 2] rfl rfl) rfl rfl hl.1 rfl (lv_room (Nat.le_of_ble_eq_true rfl)) dJ4_toString_0e30d_5 ⟨(Nat.le_of_ble_eq_true rfl), (Nat.le_of_ble_eq_true rfl)⟩) hS (fun q _ h => hFc q h) hFc (fun u t H1 locs ht hvm hw hB hz1 hk1 hS => ?_)
  obtain ⟨q, k2, hP1, hK1, hD1⟩ := hB
  rw [ht] at hP1
  have hK1 := va_K.moved hvm.symm hK1
  obtain ⟨hP, hD⟩ := va_join (wr := []) (w1 := [(aB, .inr (6, [.ref aBv, .int 0, .int bM, .int (nI n)])), (aBv, .inl (kB, 16, .inl bV)), (aW, .inr (7, [.ref q, .int 0, .int 0, .int 0])), (q, .inl (k2, n, .inl (va_cpy bV (fun _ => 0) 0 0 n)))]) hP hD [0, 1, 2] [] rfl rfl (by decide) (by decide) hk1 hFc hP1 hD1
  exact W.widen (k := 2) (n := 20) (Nat.le_of_ble_eq_true rfl) (Nat.le_of_ble_eq_true rfl) (W.aret hx hb hr (Or.inl ⟨_, rfl⟩) (Or.inr ⟨_, rfl⟩) (fun t ht hW => ⟨⟨(), aW, rfl, trivial, q, k2, by rw [ht]; exact hP, va_K.moved hW.alike hK1, hD⟩, hS.F ht⟩) hS.2.2 dJ4_toString_0e30d_8 hlocks)
/-- a String of the world, as a text for who takes another world -/
theorem ExT_of {s U : State} {args : Array Value} {H : Heap} {D : va_G} {tys tys2 : List (ClassId × FieldType)} {ws wc : va_W} {Ts : List Cond} {A : Nat → Prop} {x q k2 n i1 i2 t2 : Nat} {h z : Int32} {f : Nat → Int32} {t : List Int32}
    (hts : ∀ w ∈ Ts, w.before args s = true) (hin : ∀ w ∈ u_ws RJ0 TJ0 4, w ∈ Ts) (hK : va_K D vwC7 tys s) (hP : va_P D vwC7 ws H) (hK2 : va_K D vwC7 tys2 s) (h1 : ws[i1]? = some (x, .inr (7, [.ref q, .int 0, .int h, .int z]))) (h2 : ws[i2]? = some (q, .inl (k2, n, .inl f))) (ht : tys2[t2]? = some (k2, .byte))
    (hnx : ¬ A x) (hnq : ¬ A q) (hf : ∀ j, j < n → t.getD j 0 = f j) (hn : n < 2 ^ 31) (hU : U.heap = H) (hW : s.WarmedH U.vm) : ExT n t (fun _ => x) (fun _ => q) A U U.heap := by
  obtain ⟨cell, c1, c2, c3⟩ := va_recv hK hP (show vwC7[7]? = some _ from rfl) h1
  obtain ⟨r, e1, cell', q1, q2, q3, q4⟩ := hP i1 _ h1
  have hr : r = (RJ0, TJ0, 4) := Option.some.inj (e1.symm.trans rfl)
  subst hr
  obtain ⟨hSl, hfc, kC, hkC, hkind⟩ := hK.1 7 _ rfl
  have g : ∀ k, k < 4 → ∀ v, ([.ref q, .int 0, .int h, .int z] : List Value)[k]? = some v → va_OF (TJ0 k).1 (TJ0 k).2.1 (TJ0 k).2.2.1 v x A U U.heap := by
    intro k hk v hv
    obtain ⟨cf, kf, fi, fd, hi, hsl⟩ := hSl k hk
    have hst := (u_facts hfc hkC (u_lays hts hin hk) hi).1
    refine va_OF.moved hW.alike ⟨cf, kf, fi, fd, cell', hi, hst, by rw [hU]; exact q1, by rw [q3]; exact (fun h => by cases h), ?_, hnx⟩
    rw [hsl, q4 k hk]
    simp [vp_V, hv]
  refine ⟨fun i hi => ?_, fun i j hi hj _ => by omega⟩
  have e : i = 0 := by omega
  subst e
  refine ⟨va_O.moved hW.alike ⟨cell, by rw [hU]; exact c1, c2, c3, hnx⟩, g 1 (by decide) _ rfl, g 0 (by decide) _ rfl, ?_⟩
  have hA2 := hP i2 _ h2
  refine va_T.moved hW.alike ⟨vp_cell k2 (n, .inl f), by rw [hU]; exact hA2, (hK2.2 t2 _ ht).1 n (fun j => .int (f j)), (fun q => by cases q), ?_, ?_, fun j hj => ?_, hnq⟩
  · show n ≤ (arrV _ _ _).slots.size
    rw [arrV_size]
    exact Nat.le_refl _
  · show (arrV _ _ _).slots.size.toInt32 = Int32.ofNat n
    rw [arrV_size]
  · have hj : j < n := hj
    show (arrV k2 n (fun j => .int (f j))).slots[j]? = some (.int (t.getD j 0))
    rw [arrV_read _ _ hj]
    rw [hf j hj]
