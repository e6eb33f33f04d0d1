/-! java.lang.Float stands among the classes of which the machine runs some methods by rows of its own: these two have no row -/
theorem proF {l : Launch} {y : MethodName} {ws ws' : List Cond} {rm : Room} {D : va_G} {tys : List (ClassId × FieldType)} {wl : va_W} {av : List Value} {mc ms sz maxL : Nat} {cc : ByteArray} {ret : Option FieldType}
    {Qf : (Nat → Prop) → Array Value → State → Outcome → State → Prop} (hy : plainFor y = true) (hw : ws = Cond.code y cc maxL ret :: ws') (hsl : (lg_sl av).length ≤ maxL)
    (body : ∀ (p : Program) (e : Env) (s : State) (m : MethodId) (args : Array Value) (below : List Frame) (meth : Method) (c : Code), p.tables.exec = Jvm.exec → c.code = cc → meth.sig.returnType = ret → (∀ w ∈ ws, w.before args s = true) → s.vm.findClass y.cls = some m.cls → meth.locks = false → c.maxLocals = maxL → (y.name = "<init>" → meth.name = "<init>") → va_K D vwC7 tys s →
      ∀ A : Nat → Prop, (∀ q, s.heap.size ≤ q → A q) → ENV A s s.heap → va_P D vwC7 wl s.heap → va_D A wl → va_S A s.heap s.heap [] → ∀ ls, lv_has ls maxL (lv_args 0 av) →
        W p l e rm s m args below meth c s.heap [] 0 0 (MQ below (Qf A) args s mc ms A) (F0 m 0 ls [])) :
    Met l y ws rm (PC D tys wl av sz) (Qf (va_A wl sz)) mc ms (va_A wl sz) := by
  refine MetFree.of_bodySF (code := cc) (maxLocals := maxL) (ret := ret) hy ?_ ?_
  · intro args s m h hn
    obtain ⟨meth, c, h1, h2, h3, h4, h5, h6, -, -⟩ := Cond.code_spec hn (atoms_spec (ws := ws) h _ (by rw [hw]; exact List.mem_cons_self))
    exact ⟨meth, c, h1, h2, h3, h4, h5, h6⟩
  · intro p e s m args below meth c s₁ B hml hv _
    have hh0 : s₁.heap = s.heap := by rw [B.state]; rfl
    obtain ⟨rfl, hsz, hP, hK, hD0, hE⟩ := hv
    subst hsz
    have hD := hD0.self (sz := s.heap.size)
    have hl := lv_entry av (n := maxL) hsl
    rw [lg_entry_eq]
    obtain ⟨t, a1, o, b1, b2, b3⟩ := body p e s m _ below meth c B.exec B.bytes B.returns (atoms_spec (ws := ws) B.pre) (findClass_of_methodNamed B.named) B.notSynchronized hml (fun h => (name_of_methodNamed B.named B.method).1.trans h) hK _ (fun q h => Or.inr h) hE hP hD va_S.rf _ hl s₁ hh0 (Stand.of_body B)
    exact ⟨t, o, a1, b1, b2, ⟨b3.1, b3.2⟩⟩
abbrev RM_J0_coder_7d493 : Room := { frames := 0, cells := 0, slots := 0, locals := 0 }
abbrev MC_J0_coder_7d493 : Nat := 0
abbrev MS_J0_coder_7d493 : Nat := 0
abbrev wf_J0_coder_7d493 (K : Nat → ClassId)   (v : Int32 × Unit) : va_W := []
set_option maxHeartbeats 4000000 in
set_option maxRecDepth 100000 in
theorem c_J0_coder_7d493 (l : Launch) (nT : Nat) (tT : List Int32) (aK aV : Nat → Nat) (D : va_G) (K : Nat → ClassId) (tys : List (ClassId × FieldType))    (v : Int32 × Unit) (hF : f_J0_coder_7d493 nT tT = some v) (sz : Nat) :
    (Met l yJ0_coder_7d493 wsJ0_coder_7d493 RM_J0_coder_7d493 (PCE (ExT nT tT aK aV) D tys [] [.ref (aK 0)] sz) (QI D tys (wf_J0_coder_7d493 K) v (va_A [] sz)) MC_J0_coder_7d493 MS_J0_coder_7d493 (va_A [] sz)) := by
  refine proE (Qf := fun A => QI D tys (wf_J0_coder_7d493 K) v A) (cc := cJ0_coder_7d493) (maxL := 1) (ret := (some .byte)) (by decide +kernel) rfl (Nat.le_of_ble_eq_true rfl) ?_
  intro p e s m args below meth c hx hb hr hts hown hlocks hml hK A hA hE hX hP hD hS ls hl
  have hown : s.vm.findClass RJ0 = some m.cls := hown
  have hl : lv_has ls 1 [(0, .ref (aK 0))] := hl
  rw [f_J0_coder_7d493] at hF
  refine va_gets (v := .int 1) hx hb hE.2.2.2.2.2.2.2.2.1 hS hown (hts (.fieldLink RJ0 38 "java/lang/String" "COMPACT_STRINGS" "Z") (List.mem_of_getElem? (i := 1) rfl)) (fun _ h9 => h9) dJ0_coder_7d493_0 ?_
  refine lv_if_eq (tgt := 13) hx hb dJ0_coder_7d493_3 (by decide) (fun c9 => absurd c9 (by decide)) (fun _ => ?_)
  refine lv_aload_n hx hb dJ0_coder_7d493_6 rfl (lv_at hl 0 rfl) ?_
  refine vk_getf (v := .int 0) hx hb (hX.1 0 (by decide)).2.1 hS hown (hts (.fieldLink RJ0 15 "java/lang/String" "coder" "B") (List.mem_of_getElem? (i := 2) rfl)) (fun _ h9 => h9) dJ0_coder_7d493_7 ?_
  refine lv_goto (tgt := 14) hx hb dJ0_coder_7d493_10 (by decide) ?_
  exact fin_z (u := ((0 : Int32), ())) hF (okN_n (ty := .byte) (x := (0 : Int32)) (by decide)) hx hb hr hlocks hK hP hD hS (Nat.le_of_ble_eq_true rfl) (Nat.le_of_ble_eq_true rfl) dJ0_coder_7d493_14
abbrev RM_J0_length_8abf5 : Room := { frames := 1, cells := 0, slots := 0, locals := 20 }
abbrev MC_J0_length_8abf5 : Nat := 0
abbrev MS_J0_length_8abf5 : Nat := 0
abbrev wf_J0_length_8abf5 (K : Nat → ClassId)   (v : Int32 × Unit) : va_W := []
set_option maxHeartbeats 4000000 in
set_option maxRecDepth 100000 in
theorem c_J0_length_8abf5 (l : Launch) (nT : Nat) (tT : List Int32) (aK aV : Nat → Nat) (D : va_G) (K : Nat → ClassId) (tys : List (ClassId × FieldType))    (v : Int32 × Unit) (hF : f_J0_length_8abf5 nT tT = some v) (sz : Nat) :
    (Met l yJ0_length_8abf5 wsJ0_length_8abf5 RM_J0_length_8abf5 (PCE (ExT nT tT aK aV) D tys [] [.ref (aK 0)] sz) (QI D tys (wf_J0_length_8abf5 K) v (va_A [] sz)) MC_J0_length_8abf5 MS_J0_length_8abf5 (va_A [] sz)) := by
  refine proE (Qf := fun A => QI D tys (wf_J0_length_8abf5 K) v A) (cc := cJ0_length_8abf5) (maxL := 1) (ret := (some .int)) (by decide +kernel) rfl (Nat.le_of_ble_eq_true rfl) ?_
  intro p e s m args below meth c hx hb hr hts hown hlocks hml hK A hA hE hX hP hD hS ls hl
  have hown : s.vm.findClass RJ0 = some m.cls := hown
  have hl : lv_has ls 1 [(0, .ref (aK 0))] := hl
  rw [f_J0_length_8abf5] at hF
  refine lv_aload_n hx hb dJ0_length_8abf5_0 rfl (lv_at hl 0 rfl) ?_
  refine vk_getf (v := .ref (aV 0)) hx hb (hX.1 0 (by decide)).2.2.1 hS hown (hts (.fieldLink RJ0 9 "java/lang/String" "value" "[B") (List.mem_of_getElem? (i := 1) rfl)) (fun _ h9 => h9) dJ0_length_8abf5_1 ?_
  refine va_tlen (v := Int32.ofNat nT) hx hb (hX.1 0 (by decide)).2.2.2 hS rfl dJ0_length_8abf5_4 ?_
  refine lv_aload_n hx hb dJ0_length_8abf5_5 rfl (lv_at hl 0 rfl) ?_
  obtain ⟨v1, hv1, hF⟩ := oB hF
  refine call_i (wr := []) (wn := []) (va_runV (As := []) (rest := [.int (Int32.ofNat nT)]) ⟨hx, hb, hml, hown, hts⟩ (c_J0_coder_7d493 l nT tT aK aV D K tys v1 hv1 s.heap.size) (cwV 0 hts gJ0_length_8abf5_J0_coder_7d493 rfl rfl rfl (by decide +kernel) ⟨(Nat.le_of_ble_eq_true rfl), (Nat.le_of_ble_eq_true rfl)⟩) (prVT hX hE hK hP hD hS hA [] rfl rfl) rfl rfl hl.1 rfl (lv_room (Nat.le_of_ble_eq_true rfl)) dJ0_length_8abf5_6 ⟨(Nat.le_of_ble_eq_true rfl), (Nat.le_of_ble_eq_true rfl)⟩) hP hD hS hA [] [] [] rfl rfl rfl (by decide) rfl rfl (fun H locs hP hD hS => ?_)
  refine lv_ishr hx hb dJ0_length_8abf5_9 ?_
  exact fin_i (u := ((Int32.ofNat nT) >>> (v1.1 &&& 31), ())) hF hx hb hr hlocks hK hP hD hS (Nat.le_of_ble_eq_true rfl) (Nat.le_of_ble_eq_true rfl) dJ0_length_8abf5_10
abbrev RM_J0_isLatin1_aae02 : Room := { frames := 0, cells := 0, slots := 0, locals := 0 }
abbrev MC_J0_isLatin1_aae02 : Nat := 0
abbrev MS_J0_isLatin1_aae02 : Nat := 0
abbrev wf_J0_isLatin1_aae02 (K : Nat → ClassId)   (v : Int32 × Unit) : va_W := []
set_option maxHeartbeats 4000000 in
set_option maxRecDepth 100000 in
theorem c_J0_isLatin1_aae02 (l : Launch) (nT : Nat) (tT : List Int32) (aK aV : Nat → Nat) (D : va_G) (K : Nat → ClassId) (tys : List (ClassId × FieldType))    (v : Int32 × Unit) (hF : f_J0_isLatin1_aae02 nT tT = some v) (sz : Nat) :
    (Met l yJ0_isLatin1_aae02 wsJ0_isLatin1_aae02 RM_J0_isLatin1_aae02 (PCE (ExT nT tT aK aV) D tys [] [.ref (aK 0)] sz) (QI D tys (wf_J0_isLatin1_aae02 K) v (va_A [] sz)) MC_J0_isLatin1_aae02 MS_J0_isLatin1_aae02 (va_A [] sz)) := by
  refine proE (Qf := fun A => QI D tys (wf_J0_isLatin1_aae02 K) v A) (cc := cJ0_isLatin1_aae02) (maxL := 1) (ret := (some .boolean)) (by decide +kernel) rfl (Nat.le_of_ble_eq_true rfl) ?_
  intro p e s m args below meth c hx hb hr hts hown hlocks hml hK A hA hE hX hP hD hS ls hl
  have hown : s.vm.findClass RJ0 = some m.cls := hown
  have hl : lv_has ls 1 [(0, .ref (aK 0))] := hl
  rw [f_J0_isLatin1_aae02] at hF
  refine va_gets (v := .int 1) hx hb hE.2.2.2.2.2.2.2.2.1 hS hown (hts (.fieldLink RJ0 38 "java/lang/String" "COMPACT_STRINGS" "Z") (List.mem_of_getElem? (i := 1) rfl)) (fun _ h9 => h9) dJ0_isLatin1_aae02_0 ?_
  refine lv_if_eq (tgt := 17) hx hb dJ0_isLatin1_aae02_3 (by decide) (fun c9 => absurd c9 (by decide)) (fun _ => ?_)
  refine lv_aload_n hx hb dJ0_isLatin1_aae02_6 rfl (lv_at hl 0 rfl) ?_
  refine vk_getf (v := .int 0) hx hb (hX.1 0 (by decide)).2.1 hS hown (hts (.fieldLink RJ0 15 "java/lang/String" "coder" "B") (List.mem_of_getElem? (i := 2) rfl)) (fun _ h9 => h9) dJ0_isLatin1_aae02_7 ?_
  refine lv_if_ne (tgt := 17) hx hb dJ0_isLatin1_aae02_10 (by decide) (fun c9 => absurd (by decide) c9) (fun _ => ?_)
  refine lv_iconst (v := (1 : Int32)) hx hb dJ0_isLatin1_aae02_13 (by decide) ?_
  refine lv_goto (tgt := 18) hx hb dJ0_isLatin1_aae02_14 (by decide) ?_
  exact fin_z (u := ((1 : Int32), ())) hF (okN_n (ty := .boolean) (x := (1 : Int32)) (by decide)) hx hb hr hlocks hK hP hD hS (Nat.le_of_ble_eq_true rfl) (Nat.le_of_ble_eq_true rfl) dJ0_isLatin1_aae02_18
abbrev RM_J3_checkIndex_8e157 : Room := { frames := 0, cells := 0, slots := 0, locals := 0 }
abbrev MC_J3_checkIndex_8e157 : Nat := 0
abbrev MS_J3_checkIndex_8e157 : Nat := 0
abbrev wf_J3_checkIndex_8e157 (K : Nat → ClassId)   (v : Int32 × Unit) : va_W := []
set_option maxHeartbeats 4000000 in
set_option maxRecDepth 100000 in
theorem c_J3_checkIndex_8e157 (l : Launch) (D : va_G) (aQ : Nat) (K : Nat → ClassId) (tys : List (ClassId × FieldType))   (p1 : Int32) (p2 : Int32) (v : Int32 × Unit) (hF : f_J3_checkIndex_8e157 p1 p2 = some v) (sz : Nat) :
    (Met l yJ3_checkIndex_8e157 wsJ3_checkIndex_8e157 RM_J3_checkIndex_8e157 (PC D tys [] [.int p1, .int p2, .ref aQ] sz) (QI D tys (wf_J3_checkIndex_8e157 K) v (va_A [] sz)) MC_J3_checkIndex_8e157 MS_J3_checkIndex_8e157 (va_A [] sz)) := by
  refine pro (Qf := fun A => QI D tys (wf_J3_checkIndex_8e157 K) v A) (cc := cJ3_checkIndex_8e157) (maxL := 3) (ret := (some .int)) (by decide +kernel) rfl (Nat.le_of_ble_eq_true rfl) ?_
  intro p e s m args below meth c hx hb hr hts hown hlocks hml hini hK A hA hE hP hD hS ls hl
  have hown : s.vm.findClass RJ3 = some m.cls := hown
  have hl : lv_has ls 3 [(0, .int p1), (1, .int p2), (2, .ref aQ)] := hl
  rw [f_J3_checkIndex_8e157] at hF
  refine lv_iload_n hx hb dJ3_checkIndex_8e157_0 rfl (lv_at hl 0 rfl) ?_
  refine lv_if_lt (tgt := 9) hx hb dJ3_checkIndex_8e157_1 (by decide) (fun c1 => ?_) (fun c1 => ?_)
  · have hF := oT c1 hF
    exact nomatch hF
  · have hF := oF c1 hF
    refine lv_iload_n hx hb dJ3_checkIndex_8e157_4 rfl (lv_at hl 0 rfl) ?_
    refine lv_iload_n hx hb dJ3_checkIndex_8e157_5 rfl (lv_at hl 1 rfl) ?_
    refine lv_icmp_lt (tgt := 16) hx hb dJ3_checkIndex_8e157_6 (by decide) (fun c2 => ?_) (fun c2 => ?_)
    · have hF := oT c2 hF
      refine lv_iload_n hx hb dJ3_checkIndex_8e157_16 rfl (lv_at hl 0 rfl) ?_
      exact fin_i (u := (p1, ())) hF hx hb hr hlocks hK hP hD hS (Nat.le_of_ble_eq_true rfl) (Nat.le_of_ble_eq_true rfl) dJ3_checkIndex_8e157_17
    · have hF := oF c2 hF
      exact nomatch hF
set_option maxHeartbeats 4000000 in
set_option maxRecDepth 100000 in
theorem c_J3_checkIndex_8e157_N (l : Launch) (D : va_G) (K : Nat → ClassId) (tys : List (ClassId × FieldType))   (p1 : Int32) (p2 : Int32) (v : Int32 × Unit) (hF : f_J3_checkIndex_8e157 p1 p2 = some v) (sz : Nat) :
    (Met l yJ3_checkIndex_8e157 wsJ3_checkIndex_8e157 RM_J3_checkIndex_8e157 (PC D tys [] [.int p1, .int p2, .null] sz) (QI D tys (wf_J3_checkIndex_8e157 K) v (va_A [] sz)) MC_J3_checkIndex_8e157 MS_J3_checkIndex_8e157 (va_A [] sz)) := by
  refine pro (Qf := fun A => QI D tys (wf_J3_checkIndex_8e157 K) v A) (cc := cJ3_checkIndex_8e157) (maxL := 3) (ret := (some .int)) (by decide +kernel) rfl (Nat.le_of_ble_eq_true rfl) ?_
  intro p e s m args below meth c hx hb hr hts hown hlocks hml hini hK A hA hE hP hD hS ls hl
  have hown : s.vm.findClass RJ3 = some m.cls := hown
  have hl : lv_has ls 3 [(0, .int p1), (1, .int p2), (2, .null)] := hl
  rw [f_J3_checkIndex_8e157] at hF
  refine lv_iload_n hx hb dJ3_checkIndex_8e157_0 rfl (lv_at hl 0 rfl) ?_
  refine lv_if_lt (tgt := 9) hx hb dJ3_checkIndex_8e157_1 (by decide) (fun c1 => ?_) (fun c1 => ?_)
  · have hF := oT c1 hF
    exact nomatch hF
  · have hF := oF c1 hF
    refine lv_iload_n hx hb dJ3_checkIndex_8e157_4 rfl (lv_at hl 0 rfl) ?_
    refine lv_iload_n hx hb dJ3_checkIndex_8e157_5 rfl (lv_at hl 1 rfl) ?_
    refine lv_icmp_lt (tgt := 16) hx hb dJ3_checkIndex_8e157_6 (by decide) (fun c2 => ?_) (fun c2 => ?_)
    · have hF := oT c2 hF
      refine lv_iload_n hx hb dJ3_checkIndex_8e157_16 rfl (lv_at hl 0 rfl) ?_
      exact fin_i (u := (p1, ())) hF hx hb hr hlocks hK hP hD hS (Nat.le_of_ble_eq_true rfl) (Nat.le_of_ble_eq_true rfl) dJ3_checkIndex_8e157_17
    · have hF := oF c2 hF
      exact nomatch hF
abbrev RM_J0_checkIndex_df160 : Room := { frames := 1, cells := 0, slots := 0, locals := 22 }
abbrev MC_J0_checkIndex_df160 : Nat := 0
abbrev MS_J0_checkIndex_df160 : Nat := 0
abbrev wf_J0_checkIndex_df160 (K : Nat → ClassId)   (v : Unit) : va_W := []
set_option maxHeartbeats 4000000 in
set_option maxRecDepth 100000 in
theorem c_J0_checkIndex_df160 (l : Launch) (D : va_G) (K : Nat → ClassId) (tys : List (ClassId × FieldType))   (p1 : Int32) (p2 : Int32) (v : Unit) (hF : f_J0_checkIndex_df160 p1 p2 = some v) (sz : Nat) :
    (Met l yJ0_checkIndex_df160 wsJ0_checkIndex_df160 RM_J0_checkIndex_df160 (PC D tys [] [.int p1, .int p2] sz) (QV D tys (wf_J0_checkIndex_df160 K) v (va_A [] sz)) MC_J0_checkIndex_df160 MS_J0_checkIndex_df160 (va_A [] sz)) := by
  refine pro (Qf := fun A => QV D tys (wf_J0_checkIndex_df160 K) v A) (cc := cJ0_checkIndex_df160) (maxL := 2) (ret := none) (by decide +kernel) rfl (Nat.le_of_ble_eq_true rfl) ?_
  intro p e s m args below meth c hx hb hr hts hown hlocks hml hini hK A hA hE hP hD hS ls hl
  have hown : s.vm.findClass RJ0 = some m.cls := hown
  have hl : lv_has ls 2 [(0, .int p1), (1, .int p2)] := hl
  rw [f_J0_checkIndex_df160] at hF
  refine lv_iload_n hx hb dJ0_checkIndex_df160_0 rfl (lv_at hl 0 rfl) ?_
  refine lv_iload_n hx hb dJ0_checkIndex_df160_1 rfl (lv_at hl 1 rfl) ?_
  rcases hE.2.2.2.2.2.2.2.2.2.1.1 with hvB | ⟨aQ, hvB⟩
  · refine va_gets (v := .null) hx hb hvB hS hown (hts (.fieldLink RJ0 1053 "jdk/internal/util/Preconditions" "SIOOBE_FORMATTER" "Ljava/util/function/BiFunction;") (List.mem_of_getElem? (i := 1) rfl)) (fun _ h9 => h9) dJ0_checkIndex_df160_2 ?_
    obtain ⟨v1, hv1, hF⟩ := oB hF
    refine call_i (wr := []) (wn := []) (va_runS (As := [.int p1, .int p2, .null]) (rest := []) ⟨hx, hb, hml, hown, hts⟩ (c_J3_checkIndex_8e157_N l D K tys p1 p2 v1 hv1 s.heap.size) (va_cwS 3 hts gJ0_checkIndex_df160_J3_checkIndex_8e157 rfl rfl rfl (by decide +kernel) ⟨(Nat.le_of_ble_eq_true rfl), (Nat.le_of_ble_eq_true rfl)⟩) (prS hE hK hP hD hS hA [] rfl rfl) rfl rfl hl.1 rfl (lv_room (Nat.le_of_ble_eq_true rfl)) dJ0_checkIndex_df160_5 ⟨(Nat.le_of_ble_eq_true rfl), (Nat.le_of_ble_eq_true rfl)⟩) hP hD hS hA [] [] [] rfl rfl rfl (by decide) rfl rfl (fun H locs hP hD hS => ?_)
    refine lv_pop hx hb dJ0_checkIndex_df160_8 rfl ?_
    exact fin_v (u := ()) hF hx hb hr hlocks hK hP hD hS (Nat.le_of_ble_eq_true rfl) (Nat.le_of_ble_eq_true rfl) dJ0_checkIndex_df160_9
  · refine va_gets (v := .ref aQ) hx hb hvB hS hown (hts (.fieldLink RJ0 1053 "jdk/internal/util/Preconditions" "SIOOBE_FORMATTER" "Ljava/util/function/BiFunction;") (List.mem_of_getElem? (i := 1) rfl)) (fun _ h9 => h9) dJ0_checkIndex_df160_2 ?_
    obtain ⟨v2, hv2, hF⟩ := oB hF
    refine call_i (wr := []) (wn := []) (va_runS (As := [.int p1, .int p2, .ref aQ]) (rest := []) ⟨hx, hb, hml, hown, hts⟩ (c_J3_checkIndex_8e157 l D aQ K tys p1 p2 v2 hv2 s.heap.size) (va_cwS 3 hts gJ0_checkIndex_df160_J3_checkIndex_8e157 rfl rfl rfl (by decide +kernel) ⟨(Nat.le_of_ble_eq_true rfl), (Nat.le_of_ble_eq_true rfl)⟩) (prS hE hK hP hD hS hA [] rfl rfl) rfl rfl hl.1 rfl (lv_room (Nat.le_of_ble_eq_true rfl)) dJ0_checkIndex_df160_5 ⟨(Nat.le_of_ble_eq_true rfl), (Nat.le_of_ble_eq_true rfl)⟩) hP hD hS hA [] [] [] rfl rfl rfl (by decide) rfl rfl (fun H locs hP hD hS => ?_)
    refine lv_pop hx hb dJ0_checkIndex_df160_8 rfl ?_
    exact fin_v (u := ()) hF hx hb hr hlocks hK hP hD hS (Nat.le_of_ble_eq_true rfl) (Nat.le_of_ble_eq_true rfl) dJ0_checkIndex_df160_9
abbrev RM_J1_charAt_3b067 : Room := { frames := 2, cells := 0, slots := 0, locals := 43 }
abbrev MC_J1_charAt_3b067 : Nat := 0
abbrev MS_J1_charAt_3b067 : Nat := 0
abbrev wf_J1_charAt_3b067 (K : Nat → ClassId)   (v : Int32 × Unit) : va_W := []
set_option maxHeartbeats 4000000 in
set_option maxRecDepth 100000 in
theorem c_J1_charAt_3b067 (l : Launch) (nT : Nat) (tT : List Int32) (aK aV : Nat → Nat) (D : va_G) (K : Nat → ClassId) (tys : List (ClassId × FieldType))   (p2 : Int32) (v : Int32 × Unit) (hF : f_J1_charAt_3b067 nT tT p2 = some v) (sz : Nat) :
    (Met l yJ1_charAt_3b067 wsJ1_charAt_3b067 RM_J1_charAt_3b067 (PCE (ExT nT tT aK aV) D tys [] [.ref (aV 0), .int p2] sz) (QI D tys (wf_J1_charAt_3b067 K) v (va_A [] sz)) MC_J1_charAt_3b067 MS_J1_charAt_3b067 (va_A [] sz)) := by
  refine proE (Qf := fun A => QI D tys (wf_J1_charAt_3b067 K) v A) (cc := cJ1_charAt_3b067) (maxL := 2) (ret := (some .char)) (by decide +kernel) rfl (Nat.le_of_ble_eq_true rfl) ?_
  intro p e s m args below meth c hx hb hr hts hown hlocks hml hK A hA hE hX hP hD hS ls hl
  have hown : s.vm.findClass RJ1 = some m.cls := hown
  have hl : lv_has ls 2 [(0, .ref (aV 0)), (1, .int p2)] := hl
  rw [f_J1_charAt_3b067] at hF
  refine lv_iload_n hx hb dJ1_charAt_3b067_0 rfl (lv_at hl 1 rfl) ?_
  refine lv_aload_n hx hb dJ1_charAt_3b067_1 rfl (lv_at hl 0 rfl) ?_
  refine va_tlen (v := Int32.ofNat nT) hx hb (hX.1 0 (by decide)).2.2.2 hS rfl dJ1_charAt_3b067_2 ?_
  obtain ⟨v1, hv1, hF⟩ := oB hF
  refine call_v (wr := []) (wn := []) (va_runS (As := [.int p2, .int (Int32.ofNat nT)]) (rest := []) ⟨hx, hb, hml, hown, hts⟩ (c_J0_checkIndex_df160 l D K tys p2 (Int32.ofNat nT) v1 hv1 s.heap.size) (va_cwS 2 hts gJ1_charAt_3b067_J0_checkIndex_df160 rfl rfl rfl (by decide +kernel) ⟨(Nat.le_of_ble_eq_true rfl), (Nat.le_of_ble_eq_true rfl)⟩) (prS hE hK hP hD hS hA [] rfl rfl) rfl rfl hl.1 rfl (lv_room (Nat.le_of_ble_eq_true rfl)) dJ1_charAt_3b067_3 ⟨(Nat.le_of_ble_eq_true rfl), (Nat.le_of_ble_eq_true rfl)⟩) hP hD hS hA [] [] [] rfl rfl rfl (by decide) rfl rfl (fun H locs hP hD hS => ?_)
  refine lv_aload_n hx hb dJ1_charAt_3b067_6 rfl (lv_at hl 0 rfl) ?_
  refine lv_iload_n hx hb dJ1_charAt_3b067_7 rfl (lv_at hl 1 rfl) ?_
  obtain ⟨g2, hF⟩ := oG hF
  refine va_tb (v := .int (tT.getD p2.toNatClampNeg 0)) hx hb (hX.1 0 (by decide)).2.2.2 hS (inB_in g2) rfl dJ1_charAt_3b067_8 ?_
  refine lv_sipush (v := (255 : Int32)) hx hb dJ1_charAt_3b067_9 (by decide) ?_
  refine lv_iand hx hb dJ1_charAt_3b067_12 ?_
  refine lv_i2c (v := (((tT.getD p2.toNatClampNeg 0) &&& (255 : Int32)).toUInt32 % 65536).toInt32) hx hb dJ1_charAt_3b067_13 rfl ?_
  obtain ⟨g3, hF⟩ := oG hF
  exact fin_z (u := ((((tT.getD p2.toNatClampNeg 0) &&& (255 : Int32)).toUInt32 % 65536).toInt32, ())) hF (okN_n g3) hx hb hr hlocks hK hP hD hS (Nat.le_of_ble_eq_true rfl) (Nat.le_of_ble_eq_true rfl) dJ1_charAt_3b067_14
abbrev RM_J0_charAt_5068e : Room := { frames := 3, cells := 0, slots := 0, locals := 64 }
abbrev MC_J0_charAt_5068e : Nat := 0
abbrev MS_J0_charAt_5068e : Nat := 0
abbrev wf_J0_charAt_5068e (K : Nat → ClassId)   (v : Int32 × Unit) : va_W := []
set_option maxHeartbeats 4000000 in
set_option maxRecDepth 100000 in
theorem c_J0_charAt_5068e (l : Launch) (nT : Nat) (tT : List Int32) (aK aV : Nat → Nat) (D : va_G) (K : Nat → ClassId) (tys : List (ClassId × FieldType))   (p1 : Int32) (v : Int32 × Unit) (hF : f_J0_charAt_5068e nT tT p1 = some v) (sz : Nat) :
    (Met l yJ0_charAt_5068e wsJ0_charAt_5068e RM_J0_charAt_5068e (PCE (ExT nT tT aK aV) D tys [] [.ref (aK 0), .int p1] sz) (QI D tys (wf_J0_charAt_5068e K) v (va_A [] sz)) MC_J0_charAt_5068e MS_J0_charAt_5068e (va_A [] sz)) := by
  refine proE (Qf := fun A => QI D tys (wf_J0_charAt_5068e K) v A) (cc := cJ0_charAt_5068e) (maxL := 2) (ret := (some .char)) (by decide +kernel) rfl (Nat.le_of_ble_eq_true rfl) ?_
  intro p e s m args below meth c hx hb hr hts hown hlocks hml hK A hA hE hX hP hD hS ls hl
  have hown : s.vm.findClass RJ0 = some m.cls := hown
  have hl : lv_has ls 2 [(0, .ref (aK 0)), (1, .int p1)] := hl
  rw [f_J0_charAt_5068e] at hF
  refine lv_aload_n hx hb dJ0_charAt_5068e_0 rfl (lv_at hl 0 rfl) ?_
  obtain ⟨v1, hv1, hF⟩ := oB hF
  refine call_i (wr := []) (wn := []) (va_runV (As := []) (rest := []) ⟨hx, hb, hml, hown, hts⟩ (c_J0_isLatin1_aae02 l nT tT aK aV D K tys v1 hv1 s.heap.size) (cwV 0 hts gJ0_charAt_5068e_J0_isLatin1_aae02 rfl rfl rfl (by decide +kernel) ⟨(Nat.le_of_ble_eq_true rfl), (Nat.le_of_ble_eq_true rfl)⟩) (prVT hX hE hK hP hD hS hA [] rfl rfl) rfl rfl hl.1 rfl (lv_room (Nat.le_of_ble_eq_true rfl)) dJ0_charAt_5068e_1 ⟨(Nat.le_of_ble_eq_true rfl), (Nat.le_of_ble_eq_true rfl)⟩) hP hD hS hA [] [] [] rfl rfl rfl (by decide) rfl rfl (fun H locs hP hD hS => ?_)
  refine lv_if_eq (tgt := 16) hx hb dJ0_charAt_5068e_4 (by decide) (fun c2 => ?_) (fun c2 => ?_)
  · have hF := oT c2 hF
    exact nomatch hF
  · have hF := oF c2 hF
    refine lv_aload_n hx hb dJ0_charAt_5068e_7 rfl (lv_at hl 0 rfl) ?_
    refine vk_getf (v := .ref (aV 0)) hx hb (hX.1 0 (by decide)).2.2.1 hS hown (hts (.fieldLink RJ0 9 "java/lang/String" "value" "[B") (List.mem_of_getElem? (i := 1) rfl)) (fun _ h9 => h9) dJ0_charAt_5068e_8 ?_
    refine lv_iload_n hx hb dJ0_charAt_5068e_11 rfl (lv_at hl 1 rfl) ?_
    obtain ⟨v3, hv3, hF⟩ := oB hF
    refine call_i (wr := []) (wn := []) (va_runS (As := [.ref (aV 0), .int p1]) (rest := []) ⟨hx, hb, hml, hown, hts⟩ (c_J1_charAt_3b067 l nT tT aK aV D K tys p1 v3 hv3 H.size) (va_cwS 2 hts gJ0_charAt_5068e_J1_charAt_3b067 rfl rfl rfl (by decide +kernel) ⟨(Nat.le_of_ble_eq_true rfl), (Nat.le_of_ble_eq_true rfl)⟩) (prSE ExT_ok (hX_call ExT_ok hX hD hS hA [] rfl) hE hK hP hD hS hA [] rfl rfl) rfl rfl hl.1 rfl (lv_room (Nat.le_of_ble_eq_true rfl)) dJ0_charAt_5068e_12 ⟨(Nat.le_of_ble_eq_true rfl), (Nat.le_of_ble_eq_true rfl)⟩) hP hD hS hA [] [] [] rfl rfl rfl (by decide) rfl rfl (fun H locs hP hD hS => ?_)
    obtain ⟨g4, hF⟩ := oG hF
    exact fin_z (u := (v3.1, ())) hF (okN_n g4) hx hb hr hlocks hK hP hD hS (Nat.le_of_ble_eq_true rfl) (Nat.le_of_ble_eq_true rfl) dJ0_charAt_5068e_15
abbrev RM_Jxe99ae_isNaN_b9ae7 : Room := { frames := 0, cells := 0, slots := 0, locals := 0 }
abbrev MC_Jxe99ae_isNaN_b9ae7 : Nat := 0
abbrev MS_Jxe99ae_isNaN_b9ae7 : Nat := 0
abbrev wf_Jxe99ae_isNaN_b9ae7 (K : Nat → ClassId)   (v : Int32 × Unit) : va_W := []
set_option maxHeartbeats 4000000 in
set_option maxRecDepth 100000 in
theorem c_Jxe99ae_isNaN_b9ae7 (l : Launch) (D : va_G) (K : Nat → ClassId)   (p1 : UInt64) (v : Int32 × Unit) (hF : f_Jxe99ae_isNaN_b9ae7 p1 = some v) (sz : Nat) :
    (Met l yJxe99ae_isNaN_b9ae7 wsJxe99ae_isNaN_b9ae7 RM_Jxe99ae_isNaN_b9ae7 (PC D (TY K) [] [.double p1] sz) (QI D (TY K) (wf_Jxe99ae_isNaN_b9ae7 K) v (va_A [] sz)) MC_Jxe99ae_isNaN_b9ae7 MS_Jxe99ae_isNaN_b9ae7 (va_A [] sz)) := by
  refine pro (Qf := fun A => QI D (TY K) (wf_Jxe99ae_isNaN_b9ae7 K) v A) (cc := cJxe99ae_isNaN_b9ae7) (maxL := 2) (ret := (some .boolean)) (by decide +kernel) rfl (Nat.le_of_ble_eq_true rfl) ?_
  intro p e s m args below meth c hx hb hr hts hown hlocks hml hini hK A hA hE hP hD hS ls hl
  have hown : s.vm.findClass RJxe99ae = some m.cls := hown
  have hl : lv_has ls 2 [(0, .double p1)] := hl
  rw [f_Jxe99ae_isNaN_b9ae7] at hF
  refine lv_dload_n hx hb dJxe99ae_isNaN_b9ae7_0 rfl (lv_at hl 0 rfl) ?_
  refine lv_dload_n hx hb dJxe99ae_isNaN_b9ae7_1 rfl (lv_at hl 0 rfl) ?_
  refine lv_dcmp hx hb dJxe99ae_isNaN_b9ae7_2 ?_
  refine lv_if_eq (tgt := 10) hx hb dJxe99ae_isNaN_b9ae7_3 (by decide) (fun c1 => ?_) (fun c1 => ?_)
  · have hF := oT c1 hF
    refine lv_iconst (v := (0 : Int32)) hx hb dJxe99ae_isNaN_b9ae7_10 (by decide) ?_
    exact fin_z (u := ((0 : Int32), ())) hF (okN_n (ty := .boolean) (x := (0 : Int32)) (by decide)) hx hb hr hlocks hK hP hD hS (Nat.le_of_ble_eq_true rfl) (Nat.le_of_ble_eq_true rfl) dJxe99ae_isNaN_b9ae7_11
  · have hF := oF c1 hF
    refine lv_iconst (v := (1 : Int32)) hx hb dJxe99ae_isNaN_b9ae7_6 (by decide) ?_
    refine lv_goto (tgt := 11) hx hb dJxe99ae_isNaN_b9ae7_7 (by decide) ?_
    exact fin_z (u := ((1 : Int32), ())) hF (okN_n (ty := .boolean) (x := (1 : Int32)) (by decide)) hx hb hr hlocks hK hP hD hS (Nat.le_of_ble_eq_true rfl) (Nat.le_of_ble_eq_true rfl) dJxe99ae_isNaN_b9ae7_11
abbrev RM_Jxe99ae_doubleToLongBits_ccdee : Room := { frames := 1, cells := 0, slots := 0, locals := 60 }
abbrev MC_Jxe99ae_doubleToLongBits_ccdee : Nat := 0
abbrev MS_Jxe99ae_doubleToLongBits_ccdee : Nat := 0
abbrev wf_Jxe99ae_doubleToLongBits_ccdee (K : Nat → ClassId)   (v : Int64 × Unit) : va_W := []
set_option maxHeartbeats 4000000 in
set_option maxRecDepth 100000 in
theorem c_Jxe99ae_doubleToLongBits_ccdee (l : Launch) (D : va_G) (K : Nat → ClassId)   (p1 : UInt64) (v : Int64 × Unit) (hF : f_Jxe99ae_doubleToLongBits_ccdee p1 = some v) (sz : Nat) :
    (Met l yJxe99ae_doubleToLongBits_ccdee wsJxe99ae_doubleToLongBits_ccdee RM_Jxe99ae_doubleToLongBits_ccdee (PC D (TY K) [] [.double p1] sz) (QL D (TY K) (wf_Jxe99ae_doubleToLongBits_ccdee K) v (va_A [] sz)) MC_Jxe99ae_doubleToLongBits_ccdee MS_Jxe99ae_doubleToLongBits_ccdee (va_A [] sz)) := by
  refine pro (Qf := fun A => QL D (TY K) (wf_Jxe99ae_doubleToLongBits_ccdee K) v A) (cc := cJxe99ae_doubleToLongBits_ccdee) (maxL := 2) (ret := (some .long)) (by decide +kernel) rfl (Nat.le_of_ble_eq_true rfl) ?_
  intro p e s m args below meth c hx hb hr hts hown hlocks hml hini hK A hA hE hP hD hS ls hl
  have hown : s.vm.findClass RJxe99ae = some m.cls := hown
  have hl : lv_has ls 2 [(0, .double p1)] := hl
  rw [f_Jxe99ae_doubleToLongBits_ccdee] at hF
  refine lv_dload_n hx hb dJxe99ae_doubleToLongBits_ccdee_0 rfl (lv_at hl 0 rfl) ?_
  obtain ⟨v1, hv1, hF⟩ := oB hF
  refine call_i (wr := []) (wn := []) (va_runS (As := [.double p1]) (rest := []) ⟨hx, hb, hml, hown, hts⟩ (c_Jxe99ae_isNaN_b9ae7 l D K p1 v1 hv1 s.heap.size) (va_cwS 1 hts gJxe99ae_doubleToLongBits_ccdee_Jxe99ae_isNaN_b9ae7 rfl rfl rfl (by decide +kernel) ⟨(Nat.le_of_ble_eq_true rfl), (Nat.le_of_ble_eq_true rfl)⟩) (prS hE hK hP hD hS hA [] rfl rfl) rfl rfl hl.1 rfl (lv_room (Nat.le_of_ble_eq_true rfl)) dJxe99ae_doubleToLongBits_ccdee_1 ⟨(Nat.le_of_ble_eq_true rfl), (Nat.le_of_ble_eq_true rfl)⟩) hP hD hS hA [] [] [] rfl rfl rfl (by decide) rfl rfl (fun H locs hP hD hS => ?_)
  refine lv_if_ne (tgt := 12) hx hb dJxe99ae_doubleToLongBits_ccdee_4 (by decide) (fun c2 => ?_) (fun c2 => ?_)
  · have hF := oF c2 hF
    refine lv_ldc2 (v := (9221120237041090560 : Int64)) hx hb hown (hts (.constantLong RJxe99ae 137 (9221120237041090560)) (List.mem_of_getElem? (i := 5) rfl)) dJxe99ae_doubleToLongBits_ccdee_12 ?_
    exact fin_l (u := ((9221120237041090560 : Int64), ())) hF hx hb hr hlocks hK hP hD hS (Nat.le_of_ble_eq_true rfl) (Nat.le_of_ble_eq_true rfl) dJxe99ae_doubleToLongBits_ccdee_15
  · have hF := oT c2 hF
    refine lv_dload_n hx hb dJxe99ae_doubleToLongBits_ccdee_7 rfl (lv_at hl 0 rfl) ?_
    refine vn_d2l hx hb (hml.trans hl.1.symm) hown (hts (.methodLink RJxe99ae 134 ⟨"java/lang/Double", "doubleToRawLongBits", "(D)J"⟩) (List.mem_of_getElem? (i := 1) rfl)) (hts (.native ⟨"java/lang/Double", "doubleToRawLongBits", "(D)J"⟩) (List.mem_of_getElem? (i := 2) rfl)) (hts (.static ⟨"java/lang/Double", "doubleToRawLongBits", "(D)J"⟩) (List.mem_of_getElem? (i := 3) rfl)) (hts (.initialized "java/lang/Double") (List.mem_of_getElem? (i := 4) rfl)) (Nat.le_of_ble_eq_true rfl) (by decide) dJxe99ae_doubleToLongBits_ccdee_8 ?_
    exact fin_l (u := (p1.toInt64, ())) hF hx hb hr hlocks hK hP hD hS (Nat.le_of_ble_eq_true rfl) (Nat.le_of_ble_eq_true rfl) dJxe99ae_doubleToLongBits_ccdee_11
abbrev RM_Jxf58ca_isNaN_12338 : Room := { frames := 0, cells := 0, slots := 0, locals := 0 }
abbrev MC_Jxf58ca_isNaN_12338 : Nat := 0
abbrev MS_Jxf58ca_isNaN_12338 : Nat := 0
abbrev wf_Jxf58ca_isNaN_12338 (K : Nat → ClassId)   (v : Int32 × Unit) : va_W := []
set_option maxHeartbeats 4000000 in
set_option maxRecDepth 100000 in
theorem c_Jxf58ca_isNaN_12338 (l : Launch) (D : va_G) (K : Nat → ClassId)   (p1 : UInt32) (v : Int32 × Unit) (hF : f_Jxf58ca_isNaN_12338 p1 = some v) (sz : Nat) :
    (Met l yJxf58ca_isNaN_12338 wsJxf58ca_isNaN_12338 RM_Jxf58ca_isNaN_12338 (PC D (TY K) [] [.float p1] sz) (QI D (TY K) (wf_Jxf58ca_isNaN_12338 K) v (va_A [] sz)) MC_Jxf58ca_isNaN_12338 MS_Jxf58ca_isNaN_12338 (va_A [] sz)) := by
  refine proF (Qf := fun A => QI D (TY K) (wf_Jxf58ca_isNaN_12338 K) v A) (cc := cJxf58ca_isNaN_12338) (maxL := 1) (ret := (some .boolean)) (by decide +kernel) rfl (Nat.le_of_ble_eq_true rfl) ?_
  intro p e s m args below meth c hx hb hr hts hown hlocks hml hini hK A hA hE hP hD hS ls hl
  have hown : s.vm.findClass RJxf58ca = some m.cls := hown
  have hl : lv_has ls 1 [(0, .float p1)] := hl
  rw [f_Jxf58ca_isNaN_12338] at hF
  refine lv_fload_n hx hb dJxf58ca_isNaN_12338_0 rfl (lv_at hl 0 rfl) ?_
  refine lv_fload_n hx hb dJxf58ca_isNaN_12338_1 rfl (lv_at hl 0 rfl) ?_
  refine lv_fcmp hx hb dJxf58ca_isNaN_12338_2 ?_
  refine lv_if_eq (tgt := 10) hx hb dJxf58ca_isNaN_12338_3 (by decide) (fun c1 => ?_) (fun c1 => ?_)
  · have hF := oT c1 hF
    refine lv_iconst (v := (0 : Int32)) hx hb dJxf58ca_isNaN_12338_10 (by decide) ?_
    exact fin_z (u := ((0 : Int32), ())) hF (okN_n (ty := .boolean) (x := (0 : Int32)) (by decide)) hx hb hr hlocks hK hP hD hS (Nat.le_of_ble_eq_true rfl) (Nat.le_of_ble_eq_true rfl) dJxf58ca_isNaN_12338_11
  · have hF := oF c1 hF
    refine lv_iconst (v := (1 : Int32)) hx hb dJxf58ca_isNaN_12338_6 (by decide) ?_
    refine lv_goto (tgt := 11) hx hb dJxf58ca_isNaN_12338_7 (by decide) ?_
    exact fin_z (u := ((1 : Int32), ())) hF (okN_n (ty := .boolean) (x := (1 : Int32)) (by decide)) hx hb hr hlocks hK hP hD hS (Nat.le_of_ble_eq_true rfl) (Nat.le_of_ble_eq_true rfl) dJxf58ca_isNaN_12338_11
abbrev RM_Jxf58ca_floatToIntBits_5c35a : Room := { frames := 1, cells := 0, slots := 0, locals := 60 }
abbrev MC_Jxf58ca_floatToIntBits_5c35a : Nat := 0
abbrev MS_Jxf58ca_floatToIntBits_5c35a : Nat := 0
abbrev wf_Jxf58ca_floatToIntBits_5c35a (K : Nat → ClassId)   (v : Int32 × Unit) : va_W := []
set_option maxHeartbeats 4000000 in
set_option maxRecDepth 100000 in
theorem c_Jxf58ca_floatToIntBits_5c35a (l : Launch) (D : va_G) (K : Nat → ClassId)   (p1 : UInt32) (v : Int32 × Unit) (hF : f_Jxf58ca_floatToIntBits_5c35a p1 = some v) (sz : Nat) :
    (Met l yJxf58ca_floatToIntBits_5c35a wsJxf58ca_floatToIntBits_5c35a RM_Jxf58ca_floatToIntBits_5c35a (PC D (TY K) [] [.float p1] sz) (QI D (TY K) (wf_Jxf58ca_floatToIntBits_5c35a K) v (va_A [] sz)) MC_Jxf58ca_floatToIntBits_5c35a MS_Jxf58ca_floatToIntBits_5c35a (va_A [] sz)) := by
  refine proF (Qf := fun A => QI D (TY K) (wf_Jxf58ca_floatToIntBits_5c35a K) v A) (cc := cJxf58ca_floatToIntBits_5c35a) (maxL := 1) (ret := (some .int)) (by decide +kernel) rfl (Nat.le_of_ble_eq_true rfl) ?_
  intro p e s m args below meth c hx hb hr hts hown hlocks hml hini hK A hA hE hP hD hS ls hl
  have hown : s.vm.findClass RJxf58ca = some m.cls := hown
  have hl : lv_has ls 1 [(0, .float p1)] := hl
  rw [f_Jxf58ca_floatToIntBits_5c35a] at hF
  refine lv_fload_n hx hb dJxf58ca_floatToIntBits_5c35a_0 rfl (lv_at hl 0 rfl) ?_
  obtain ⟨v1, hv1, hF⟩ := oB hF
  refine call_i (wr := []) (wn := []) (va_runS (As := [.float p1]) (rest := []) ⟨hx, hb, hml, hown, hts⟩ (c_Jxf58ca_isNaN_12338 l D K p1 v1 hv1 s.heap.size) (va_cwS 1 hts gJxf58ca_floatToIntBits_5c35a_Jxf58ca_isNaN_12338 rfl rfl rfl (by decide +kernel) ⟨(Nat.le_of_ble_eq_true rfl), (Nat.le_of_ble_eq_true rfl)⟩) (prS hE hK hP hD hS hA [] rfl rfl) rfl rfl hl.1 rfl (lv_room (Nat.le_of_ble_eq_true rfl)) dJxf58ca_floatToIntBits_5c35a_1 ⟨(Nat.le_of_ble_eq_true rfl), (Nat.le_of_ble_eq_true rfl)⟩) hP hD hS hA [] [] [] rfl rfl rfl (by decide) rfl rfl (fun H locs hP hD hS => ?_)
  refine lv_if_ne (tgt := 12) hx hb dJxf58ca_floatToIntBits_5c35a_4 (by decide) (fun c2 => ?_) (fun c2 => ?_)
  · have hF := oF c2 hF
    refine lv_ldc (v := (2143289344 : Int32)) hx hb hown (hts (.constant RJxf58ca 77 (2143289344)) (List.mem_of_getElem? (i := 5) rfl)) dJxf58ca_floatToIntBits_5c35a_12 ?_
    exact fin_i (u := ((2143289344 : Int32), ())) hF hx hb hr hlocks hK hP hD hS (Nat.le_of_ble_eq_true rfl) (Nat.le_of_ble_eq_true rfl) dJxf58ca_floatToIntBits_5c35a_14
  · have hF := oT c2 hF
    refine lv_fload_n hx hb dJxf58ca_floatToIntBits_5c35a_7 rfl (lv_at hl 0 rfl) ?_
    refine vn_f2i hx hb (hml.trans hl.1.symm) hown (hts (.methodLink RJxf58ca 74 ⟨"java/lang/Float", "floatToRawIntBits", "(F)I"⟩) (List.mem_of_getElem? (i := 1) rfl)) (hts (.native ⟨"java/lang/Float", "floatToRawIntBits", "(F)I"⟩) (List.mem_of_getElem? (i := 2) rfl)) (hts (.static ⟨"java/lang/Float", "floatToRawIntBits", "(F)I"⟩) (List.mem_of_getElem? (i := 3) rfl)) (hts (.initialized "java/lang/Float") (List.mem_of_getElem? (i := 4) rfl)) (Nat.le_of_ble_eq_true rfl) (by decide) dJxf58ca_floatToIntBits_5c35a_8 ?_
    exact fin_i (u := (p1.toInt32, ())) hF hx hb hr hlocks hK hP hD hS (Nat.le_of_ble_eq_true rfl) (Nat.le_of_ble_eq_true rfl) dJxf58ca_floatToIntBits_5c35a_11
abbrev RM_J5_ensureCapacityInternal_d00df : Room := { frames := 0, cells := 0, slots := 0, locals := 0 }
abbrev MC_J5_ensureCapacityInternal_d00df : Nat := 0
abbrev MS_J5_ensureCapacityInternal_d00df : Nat := 0
abbrev wf_J5_ensureCapacityInternal_d00df (K : Nat → ClassId) (aB : Nat) (aBv : Nat) (bC : Int32) (bM : Int32) (bN : Int32) (bV : Nat → Int32) (v : Unit) : va_W := [(aB, .inr (6, [.ref aBv, .int bC, .int bM, .int bN])), (aBv, .inl (K 7, 16, .inl bV))]
set_option maxHeartbeats 4000000 in
set_option maxRecDepth 100000 in
theorem c_J5_ensureCapacityInternal_d00df (l : Launch) (D : va_G) (K : Nat → ClassId) (aB : Nat) (aBv : Nat) (bC : Int32) (bM : Int32) (bN : Int32) (bV : Nat → Int32) (p1 : Int32) (v : Unit) (hF : f_J5_ensureCapacityInternal_d00df bC p1 = some v) (sz : Nat) :
    (Met l yJ5_ensureCapacityInternal_d00df wsJ5_ensureCapacityInternal_d00df RM_J5_ensureCapacityInternal_d00df (PC D (TYB K) [(aB, .inr (6, [.ref aBv, .int bC, .int bM, .int bN])), (aBv, .inl (K 7, 16, .inl bV))] [.ref aB, .int p1] sz) (QV D (TYB K) (wf_J5_ensureCapacityInternal_d00df K aB aBv bC bM bN bV) v (va_A [(aB, .inr (6, [.ref aBv, .int bC, .int bM, .int bN])), (aBv, .inl (K 7, 16, .inl bV))] sz)) MC_J5_ensureCapacityInternal_d00df MS_J5_ensureCapacityInternal_d00df (va_A [(aB, .inr (6, [.ref aBv, .int bC, .int bM, .int bN])), (aBv, .inl (K 7, 16, .inl bV))] sz)) := by
  refine pro (Qf := fun A => QV D (TYB K) (wf_J5_ensureCapacityInternal_d00df K aB aBv bC bM bN bV) v A) (cc := cJ5_ensureCapacityInternal_d00df) (maxL := 3) (ret := none) (by decide +kernel) rfl (Nat.le_of_ble_eq_true rfl) ?_
  intro p e s m args below meth c hx hb hr hts hown hlocks hml hini hK A hA hE hP hD hS ls hl
  have hown : s.vm.findClass RJ5 = some m.cls := hown
  have hl : lv_has ls 3 [(0, .ref aB), (1, .int p1)] := hl
  rw [f_J5_ensureCapacityInternal_d00df] at hF
  refine lv_aload_n hx hb dJ5_ensureCapacityInternal_d00df_0 rfl (lv_at hl 0 rfl) ?_
  refine va_get (D := D) (ci := 6) (v := .ref aBv) (C := RJ4) (T := TJ4) (N := 4) hx hb hts (fun _ h => List.mem_cons_of_mem _ (List.mem_append_right _ h)) hown hK hP 0 rfl rfl 0 (by decide) (hts (.fieldLink RJ5 15 "java/lang/AbstractStringBuilder" "value" "[B") (List.mem_of_getElem? (i := 1) rfl)) (fun _ h9 => h9) rfl dJ5_ensureCapacityInternal_d00df_1 ?_
  refine va_alen hx hb hK hP 1 0 rfl rfl (v := (16 : Int32)) rfl dJ5_ensureCapacityInternal_d00df_4 ?_
  refine lv_aload_n hx hb dJ5_ensureCapacityInternal_d00df_5 rfl (lv_at hl 0 rfl) ?_
  refine va_get (D := D) (ci := 6) (v := .int bC) (C := RJ4) (T := TJ4) (N := 4) hx hb hts (fun _ h => List.mem_cons_of_mem _ (List.mem_append_right _ h)) hown hK hP 0 rfl rfl 1 (by decide) (hts (.fieldLink RJ5 22 "java/lang/AbstractStringBuilder" "coder" "B") (List.mem_of_getElem? (i := 2) rfl)) (fun _ h9 => h9) rfl dJ5_ensureCapacityInternal_d00df_6 ?_
  refine lv_ishr hx hb dJ5_ensureCapacityInternal_d00df_9 ?_
  refine lv_istore_n (lv' := [(2, .int ((16 : Int32) >>> (bC &&& 31))), (0, .ref aB), (1, .int p1)]) hx hb dJ5_ensureCapacityInternal_d00df_10 rfl hl (by decide) rfl (fun ls hl => ?_)
  refine lv_iload_n hx hb dJ5_ensureCapacityInternal_d00df_11 rfl (lv_at hl 2 rfl) ?_
  refine lv_iload_n hx hb dJ5_ensureCapacityInternal_d00df_12 rfl (lv_at hl 0 rfl) ?_
  refine lv_isub hx hb dJ5_ensureCapacityInternal_d00df_13 ?_
  refine lv_if_le (tgt := 38) hx hb dJ5_ensureCapacityInternal_d00df_14 (by decide) (fun c1 => ?_) (fun c1 => ?_)
  · have hF := oT c1 hF
    exact fin_v (u := ()) hF hx hb hr hlocks hK hP hD hS (Nat.le_of_ble_eq_true rfl) (Nat.le_of_ble_eq_true rfl) dJ5_ensureCapacityInternal_d00df_38
  · have hF := oF c1 hF
    exact nomatch hF
abbrev RM_J5_inflateIfNeededFor_a7421 : Room := { frames := 1, cells := 0, slots := 0, locals := 20 }
abbrev MC_J5_inflateIfNeededFor_a7421 : Nat := 0
abbrev MS_J5_inflateIfNeededFor_a7421 : Nat := 0
abbrev wf_J5_inflateIfNeededFor_a7421 (K : Nat → ClassId) (aB : Nat) (aBv : Nat) (bC : Int32) (bM : Int32) (bN : Int32) (v : Unit) : va_W := [(aB, .inr (6, [.ref aBv, .int bC, .int bM, .int bN]))]
set_option maxHeartbeats 4000000 in
set_option maxRecDepth 100000 in
theorem c_J5_inflateIfNeededFor_a7421 (l : Launch) (nT : Nat) (tT : List Int32) (aK aV : Nat → Nat) (D : va_G) (K : Nat → ClassId) (aB : Nat) (aBv : Nat) (bC : Int32) (bM : Int32) (bN : Int32)  (v : Unit) (hF : f_J5_inflateIfNeededFor_a7421 nT tT bC = some v) (sz : Nat) :
    (Met l yJ5_inflateIfNeededFor_a7421 wsJ5_inflateIfNeededFor_a7421 RM_J5_inflateIfNeededFor_a7421 (PCE (ExT nT tT aK aV) D (TYB K) [(aB, .inr (6, [.ref aBv, .int bC, .int bM, .int bN]))] [.ref aB, .ref (aK 0)] sz) (QV D (TYB K) (wf_J5_inflateIfNeededFor_a7421 K aB aBv bC bM bN) v (va_A [(aB, .inr (6, [.ref aBv, .int bC, .int bM, .int bN]))] sz)) MC_J5_inflateIfNeededFor_a7421 MS_J5_inflateIfNeededFor_a7421 (va_A [(aB, .inr (6, [.ref aBv, .int bC, .int bM, .int bN]))] sz)) := by
  refine proE (Qf := fun A => QV D (TYB K) (wf_J5_inflateIfNeededFor_a7421 K aB aBv bC bM bN) v A) (cc := cJ5_inflateIfNeededFor_a7421) (maxL := 2) (ret := none) (by decide +kernel) rfl (Nat.le_of_ble_eq_true rfl) ?_
  intro p e s m args below meth c hx hb hr hts hown hlocks hml hK A hA hE hX hP hD hS ls hl
  have hown : s.vm.findClass RJ5 = some m.cls := hown
  have hl : lv_has ls 2 [(0, .ref aB), (1, .ref (aK 0))] := hl
  rw [f_J5_inflateIfNeededFor_a7421] at hF
  refine va_gets (v := .int 1) hx hb hE.2.2.2.2.2.2.2.2.1 hS hown (hts (.fieldLink RJ5 18 "java/lang/String" "COMPACT_STRINGS" "Z") (List.mem_of_getElem? (i := 1) rfl)) (fun _ h9 => h9) dJ5_inflateIfNeededFor_a7421_0 ?_
  refine lv_if_eq (tgt := 21) hx hb dJ5_inflateIfNeededFor_a7421_3 (by decide) (fun c9 => absurd c9 (by decide)) (fun _ => ?_)
  refine lv_aload_n hx hb dJ5_inflateIfNeededFor_a7421_6 rfl (lv_at hl 0 rfl) ?_
  refine va_get (D := D) (ci := 6) (v := .int bC) (C := RJ4) (T := TJ4) (N := 4) hx hb hts (fun _ h => List.mem_cons_of_mem _ (List.mem_append_left _ (List.mem_append_right _ h))) hown hK hP 0 rfl rfl 1 (by decide) (hts (.fieldLink RJ5 22 "java/lang/AbstractStringBuilder" "coder" "B") (List.mem_of_getElem? (i := 2) rfl)) (fun _ h9 => h9) rfl dJ5_inflateIfNeededFor_a7421_7 ?_
  refine lv_aload_n hx hb dJ5_inflateIfNeededFor_a7421_10 rfl (lv_at hl 1 rfl) ?_
  obtain ⟨v2, hv2, hF⟩ := oB hF
  refine call_i (wr := [(aB, .inr (6, [.ref aBv, .int bC, .int bM, .int bN]))]) (wn := [(aB, .inr (6, [.ref aBv, .int bC, .int bM, .int bN]))]) (va_runV (As := []) (rest := [.int bC]) ⟨hx, hb, hml, hown, hts⟩ (c_J0_coder_7d493 l nT tT aK aV D K (TYB K) v2 hv2 s.heap.size) (cwV 0 hts gJ5_inflateIfNeededFor_a7421_J0_coder_7d493 rfl rfl rfl (by decide +kernel) ⟨(Nat.le_of_ble_eq_true rfl), (Nat.le_of_ble_eq_true rfl)⟩) (prVT hX hE hK hP hD hS hA [] rfl rfl) rfl rfl hl.1 rfl (lv_room (Nat.le_of_ble_eq_true rfl)) dJ5_inflateIfNeededFor_a7421_11 ⟨(Nat.le_of_ble_eq_true rfl), (Nat.le_of_ble_eq_true rfl)⟩) hP hD hS hA [] [0] [0] rfl rfl rfl (by decide) rfl rfl (fun H locs hP hD hS => ?_)
  refine lv_icmp_eq (tgt := 21) hx hb dJ5_inflateIfNeededFor_a7421_14 (by decide) (fun c3 => ?_) (fun c3 => ?_)
  · have hF := oT c3 hF
    exact fin_v (u := ()) hF hx hb hr hlocks hK hP hD hS (Nat.le_of_ble_eq_true rfl) (Nat.le_of_ble_eq_true rfl) dJ5_inflateIfNeededFor_a7421_21
  · have hF := oF c3 hF
    exact nomatch hF
abbrev RM_J0_getBytes_840e7 : Room := { frames := 1, cells := 0, slots := 0, locals := 120 }
abbrev MC_J0_getBytes_840e7 : Nat := 0
abbrev MS_J0_getBytes_840e7 : Nat := 0
abbrev wf_J0_getBytes_840e7 (K : Nat → ClassId) (aBv : Nat)  (v : (Nat → Int32)) : va_W := [(aBv, .inl (K 7, 16, .inl v))]
set_option maxHeartbeats 4000000 in
set_option maxRecDepth 100000 in
theorem c_J0_getBytes_840e7 (l : Launch) (nT : Nat) (tT : List Int32) (aK aV : Nat → Nat) (D : va_G) (K : Nat → ClassId) (aBv : Nat) (bV : Nat → Int32) (p2 : Int32) (p3 : Int32) (v : (Nat → Int32)) (hF : f_J0_getBytes_840e7 nT tT bV p2 p3 = some v) (sz : Nat) :
    (Met l yJ0_getBytes_840e7 wsJ0_getBytes_840e7 RM_J0_getBytes_840e7 (PCE (ExT nT tT aK aV) D (TYB K) [(aBv, .inl (K 7, 16, .inl bV))] [.ref (aK 0), .ref aBv, .int p2, .int p3] sz) (QV D (TYB K) (wf_J0_getBytes_840e7 K aBv) v (va_A [(aBv, .inl (K 7, 16, .inl bV))] sz)) MC_J0_getBytes_840e7 MS_J0_getBytes_840e7 (va_A [(aBv, .inl (K 7, 16, .inl bV))] sz)) := by
  refine proE (Qf := fun A => QV D (TYB K) (wf_J0_getBytes_840e7 K aBv) v A) (cc := cJ0_getBytes_840e7) (maxL := 4) (ret := none) (by decide +kernel) rfl (Nat.le_of_ble_eq_true rfl) ?_
  intro p e s m args below meth c hx hb hr hts hown hlocks hml hK A hA hE hX hP hD hS ls hl
  have hown : s.vm.findClass RJ0 = some m.cls := hown
  have hl : lv_has ls 4 [(0, .ref (aK 0)), (1, .ref aBv), (2, .int p2), (3, .int p3)] := hl
  rw [f_J0_getBytes_840e7] at hF
  refine lv_aload_n hx hb dJ0_getBytes_840e7_0 rfl (lv_at hl 0 rfl) ?_
  obtain ⟨v1, hv1, hF⟩ := oB hF
  refine call_i (wr := [(aBv, .inl (K 7, 16, .inl bV))]) (wn := [(aBv, .inl (K 7, 16, .inl bV))]) (va_runV (As := []) (rest := []) ⟨hx, hb, hml, hown, hts⟩ (c_J0_coder_7d493 l nT tT aK aV D K (TYB K) v1 hv1 s.heap.size) (cwV 0 hts gJ0_getBytes_840e7_J0_coder_7d493 rfl rfl rfl (by decide +kernel) ⟨(Nat.le_of_ble_eq_true rfl), (Nat.le_of_ble_eq_true rfl)⟩) (prVT hX hE hK hP hD hS hA [] rfl rfl) rfl rfl hl.1 rfl (lv_room (Nat.le_of_ble_eq_true rfl)) dJ0_getBytes_840e7_1 ⟨(Nat.le_of_ble_eq_true rfl), (Nat.le_of_ble_eq_true rfl)⟩) hP hD hS hA [] [0] [0] rfl rfl rfl (by decide) rfl rfl (fun H locs hP hD hS => ?_)
  refine lv_iload_n hx hb dJ0_getBytes_840e7_4 rfl (lv_at hl 3 rfl) ?_
  refine lv_icmp_ne (tgt := 28) hx hb dJ0_getBytes_840e7_5 (by decide) (fun c2 => ?_) (fun c2 => ?_)
  · have hF := oF c2 hF
    exact nomatch hF
  · have hF := oT c2 hF
    refine lv_aload_n hx hb dJ0_getBytes_840e7_8 rfl (lv_at hl 0 rfl) ?_
    refine vk_getf (v := .ref (aV 0)) hx hb (hX.1 0 (by decide)).2.2.1 hS hown (hts (.fieldLink RJ0 9 "java/lang/String" "value" "[B") (List.mem_of_getElem? (i := 1) rfl)) (fun _ h9 => h9) dJ0_getBytes_840e7_9 ?_
    refine lv_iconst (v := (0 : Int32)) hx hb dJ0_getBytes_840e7_12 (by decide) ?_
    refine lv_aload_n hx hb dJ0_getBytes_840e7_13 rfl (lv_at hl 1 rfl) ?_
    refine lv_iload_n hx hb dJ0_getBytes_840e7_14 rfl (lv_at hl 2 rfl) ?_
    refine lv_iload_n hx hb dJ0_getBytes_840e7_15 rfl (lv_at hl 3 rfl) ?_
    refine lv_ishl hx hb dJ0_getBytes_840e7_16 ?_
    refine lv_aload_n hx hb dJ0_getBytes_840e7_17 rfl (lv_at hl 0 rfl) ?_
    refine vk_getf (v := .ref (aV 0)) hx hb (hX.1 0 (by decide)).2.2.1 hS hown (hts (.fieldLink RJ0 9 "java/lang/String" "value" "[B") (List.mem_of_getElem? (i := 1) rfl)) (fun _ h9 => h9) dJ0_getBytes_840e7_18 ?_
    refine va_tlen (v := Int32.ofNat nT) hx hb (hX.1 0 (by decide)).2.2.2 hS rfl dJ0_getBytes_840e7_21 ?_
    obtain ⟨g3, hF⟩ := oG hF
    obtain ⟨z1, z2, z3, z4, z5, z6⟩ := cpT_s g3
    refine vk_copyt (f := fun j => tT.getD j 0) hx hb (hml.trans hl.1.symm) hown (hts (.methodLink RJ0 212 arraycopyName) (List.mem_of_getElem? (i := 2) rfl)) (hts (.native arraycopyName) (List.mem_of_getElem? (i := 3) rfl)) (hts (.static arraycopyName) (List.mem_of_getElem? (i := 4) rfl)) (hts (.initialized "java/lang/System") (List.mem_of_getElem? (i := 5) rfl)) hK hP hD hS (hX.1 0 (by decide)).2.2.2 0 0 rfl rfl z1 z2 z3 z4 z5 (fun i _ => z6 _) (Nat.le_of_ble_eq_true rfl) (by decide +kernel) dJ0_getBytes_840e7_22 (fun H locs hP hD hS => ?_)
    have hP : va_P D vwC7 [(aBv, .inl (K 7, 16, .inl (va_cpy (fun j => tT.getD j 0) bV (0 : Int32).toNatClampNeg (p2 <<< (p3 &&& 31)).toNatClampNeg (Int32.ofNat nT).toNatClampNeg)))] H := hP
    have hD : va_D A [(aBv, .inl (K 7, 16, .inl (va_cpy (fun j => tT.getD j 0) bV (0 : Int32).toNatClampNeg (p2 <<< (p3 &&& 31)).toNatClampNeg (Int32.ofNat nT).toNatClampNeg)))] := hD
    refine lv_goto (tgt := 43) hx hb dJ0_getBytes_840e7_25 (by decide) ?_
    exact fin_v (u := va_cpy (fun j => tT.getD j 0) bV (0 : Int32).toNatClampNeg (p2 <<< (p3 &&& 31)).toNatClampNeg (Int32.ofNat nT).toNatClampNeg) hF hx hb hr hlocks hK hP hD hS (Nat.le_of_ble_eq_true rfl) (Nat.le_of_ble_eq_true rfl) dJ0_getBytes_840e7_43
abbrev RM_J5_putStringAt_47b60 : Room := { frames := 2, cells := 0, slots := 0, locals := 143 }
abbrev MC_J5_putStringAt_47b60 : Nat := 0
abbrev MS_J5_putStringAt_47b60 : Nat := 0
abbrev wf_J5_putStringAt_47b60 (K : Nat → ClassId) (aB : Nat) (aBv : Nat) (bC : Int32) (bM : Int32) (bN : Int32) (v : (Nat → Int32)) : va_W := [(aB, .inr (6, [.ref aBv, .int bC, .int bM, .int bN])), (aBv, .inl (K 7, 16, .inl v))]
set_option maxHeartbeats 4000000 in
set_option maxRecDepth 100000 in
theorem c_J5_putStringAt_47b60 (l : Launch) (nT : Nat) (tT : List Int32) (aK aV : Nat → Nat) (D : va_G) (K : Nat → ClassId) (aB : Nat) (aBv : Nat) (bC : Int32) (bM : Int32) (bN : Int32) (bV : Nat → Int32) (p1 : Int32) (v : (Nat → Int32)) (hF : f_J5_putStringAt_47b60 nT tT bC bV p1 = some v) (sz : Nat) :
    (Met l yJ5_putStringAt_47b60 wsJ5_putStringAt_47b60 RM_J5_putStringAt_47b60 (PCE (ExT nT tT aK aV) D (TYB K) [(aB, .inr (6, [.ref aBv, .int bC, .int bM, .int bN])), (aBv, .inl (K 7, 16, .inl bV))] [.ref aB, .int p1, .ref (aK 0)] sz) (QV D (TYB K) (wf_J5_putStringAt_47b60 K aB aBv bC bM bN) v (va_A [(aB, .inr (6, [.ref aBv, .int bC, .int bM, .int bN])), (aBv, .inl (K 7, 16, .inl bV))] sz)) MC_J5_putStringAt_47b60 MS_J5_putStringAt_47b60 (va_A [(aB, .inr (6, [.ref aBv, .int bC, .int bM, .int bN])), (aBv, .inl (K 7, 16, .inl bV))] sz)) := by
  refine proE (Qf := fun A => QV D (TYB K) (wf_J5_putStringAt_47b60 K aB aBv bC bM bN) v A) (cc := cJ5_putStringAt_47b60) (maxL := 3) (ret := none) (by decide +kernel) rfl (Nat.le_of_ble_eq_true rfl) ?_
  intro p e s m args below meth c hx hb hr hts hown hlocks hml hK A hA hE hX hP hD hS ls hl
  have hown : s.vm.findClass RJ5 = some m.cls := hown
  have hl : lv_has ls 3 [(0, .ref aB), (1, .int p1), (2, .ref (aK 0))] := hl
  rw [f_J5_putStringAt_47b60] at hF
  refine lv_aload_n hx hb dJ5_putStringAt_47b60_0 rfl (lv_at hl 0 rfl) ?_
  refine lv_aload_n hx hb dJ5_putStringAt_47b60_1 rfl (lv_at hl 2 rfl) ?_
  obtain ⟨v1, hv1, hF⟩ := oB hF
  refine call_v (wr := [(aBv, .inl (K 7, 16, .inl bV))]) (wn := [(aB, .inr (6, [.ref aBv, .int bC, .int bM, .int bN])), (aBv, .inl (K 7, 16, .inl bV))]) (va_runU (As := [.ref (aK 0)]) (rest := []) ⟨hx, hb, hml, hown, hts⟩ (c_J5_inflateIfNeededFor_a7421 l nT tT aK aV D K aB aBv bC bM bN v1 hv1 s.heap.size) (va_cwU 1 hts gJ5_putStringAt_47b60_J5_inflateIfNeededFor_a7421_u397J4 rfl rfl rfl rfl (by decide +kernel) ⟨(Nat.le_of_ble_eq_true rfl), (Nat.le_of_ble_eq_true rfl)⟩) (prVE ExT_ok (hX_call ExT_ok hX hD hS hA [0] rfl) hE hK hP hD hS hA [0] rfl rfl 6 0 rfl rfl rfl) rfl rfl hl.1 rfl (lv_room (Nat.le_of_ble_eq_true rfl)) dJ5_putStringAt_47b60_2 ⟨(Nat.le_of_ble_eq_true rfl), (Nat.le_of_ble_eq_true rfl)⟩) hP hD hS hA [0] [1] [1, 0] rfl rfl rfl (by decide) rfl rfl (fun H locs hP hD hS => ?_)
  refine lv_aload_n hx hb dJ5_putStringAt_47b60_5 rfl (lv_at hl 2 rfl) ?_
  refine lv_aload_n hx hb dJ5_putStringAt_47b60_6 rfl (lv_at hl 0 rfl) ?_
  refine va_get (D := D) (ci := 6) (v := .ref aBv) (C := RJ4) (T := TJ4) (N := 4) hx hb hts (fun _ h => List.mem_cons_of_mem _ (List.mem_append_left _ (List.mem_append_right _ h))) hown hK hP 0 rfl rfl 0 (by decide) (hts (.fieldLink RJ5 15 "java/lang/AbstractStringBuilder" "value" "[B") (List.mem_of_getElem? (i := 1) rfl)) (fun _ h9 => h9) rfl dJ5_putStringAt_47b60_7 ?_
  refine lv_iload_n hx hb dJ5_putStringAt_47b60_10 rfl (lv_at hl 1 rfl) ?_
  refine lv_aload_n hx hb dJ5_putStringAt_47b60_11 rfl (lv_at hl 0 rfl) ?_
  refine va_get (D := D) (ci := 6) (v := .int bC) (C := RJ4) (T := TJ4) (N := 4) hx hb hts (fun _ h => List.mem_cons_of_mem _ (List.mem_append_left _ (List.mem_append_right _ h))) hown hK hP 0 rfl rfl 1 (by decide) (hts (.fieldLink RJ5 22 "java/lang/AbstractStringBuilder" "coder" "B") (List.mem_of_getElem? (i := 2) rfl)) (fun _ h9 => h9) rfl dJ5_putStringAt_47b60_12 ?_
  obtain ⟨v2, hv2, hF⟩ := oB hF
  refine call_v (wr := [(aB, .inr (6, [.ref aBv, .int bC, .int bM, .int bN]))]) (wn := [(aB, .inr (6, [.ref aBv, .int bC, .int bM, .int bN])), (aBv, .inl (K 7, 16, .inl v2))]) (va_runV (As := [.ref aBv, .int p1, .int bC]) (rest := []) ⟨hx, hb, hml, hown, hts⟩ (c_J0_getBytes_840e7 l nT tT aK aV D K aBv bV p1 bC v2 hv2 H.size) (cwV 3 hts gJ5_putStringAt_47b60_J0_getBytes_840e7 rfl rfl rfl (by decide +kernel) ⟨(Nat.le_of_ble_eq_true rfl), (Nat.le_of_ble_eq_true rfl)⟩) (prVT hX hE hK hP hD hS hA [1] rfl rfl) rfl rfl hl.1 rfl (lv_room (Nat.le_of_ble_eq_true rfl)) dJ5_putStringAt_47b60_15 ⟨(Nat.le_of_ble_eq_true rfl), (Nat.le_of_ble_eq_true rfl)⟩) hP hD hS hA [1] [0] [0, 1] rfl rfl rfl (by decide) rfl rfl (fun H locs hP hD hS => ?_)
  exact fin_v (u := v2) hF hx hb hr hlocks hK hP hD hS (Nat.le_of_ble_eq_true rfl) (Nat.le_of_ble_eq_true rfl) dJ5_putStringAt_47b60_18
abbrev RM_J5_append_cf1ce : Room := { frames := 3, cells := 0, slots := 0, locals := 165 }
abbrev MC_J5_append_cf1ce : Nat := 0
abbrev MS_J5_append_cf1ce : Nat := 0
abbrev wf_J5_append_cf1ce (K : Nat → ClassId) (aB : Nat) (aBv : Nat) (bC : Int32) (bM : Int32) (v : Int32 × (Nat → Int32)) : va_W := [(aB, .inr (6, [.ref aBv, .int bC, .int bM, .int v.1])), (aBv, .inl (K 7, 16, .inl v.2))]
set_option maxHeartbeats 4000000 in
set_option maxRecDepth 100000 in
theorem c_J5_append_cf1ce (l : Launch) (nT : Nat) (tT : List Int32) (aK aV : Nat → Nat) (D : va_G) (K : Nat → ClassId) (aB : Nat) (aBv : Nat) (bC : Int32) (bM : Int32) (bN : Int32) (bV : Nat → Int32)  (v : Int32 × (Nat → Int32)) (hF : f_J5_append_cf1ce nT tT bC bN bV = some v) (sz : Nat) :
    (Met l yJ5_append_cf1ce wsJ5_append_cf1ce RM_J5_append_cf1ce (PCE (ExT nT tT aK aV) D (TYB K) [(aB, .inr (6, [.ref aBv, .int bC, .int bM, .int bN])), (aBv, .inl (K 7, 16, .inl bV))] [.ref aB, .ref (aK 0)] sz) (QR D (TYB K) aB (wf_J5_append_cf1ce K aB aBv bC bM) v (va_A [(aB, .inr (6, [.ref aBv, .int bC, .int bM, .int bN])), (aBv, .inl (K 7, 16, .inl bV))] sz)) MC_J5_append_cf1ce MS_J5_append_cf1ce (va_A [(aB, .inr (6, [.ref aBv, .int bC, .int bM, .int bN])), (aBv, .inl (K 7, 16, .inl bV))] sz)) := by
  refine proE (Qf := fun A => QR D (TYB K) aB (wf_J5_append_cf1ce K aB aBv bC bM) v A) (cc := cJ5_append_cf1ce) (maxL := 3) (ret := (some (.object "java/lang/AbstractStringBuilder"))) (by decide +kernel) rfl (Nat.le_of_ble_eq_true rfl) ?_
  intro p e s m args below meth c hx hb hr hts hown hlocks hml hK A hA hE hX hP hD hS ls hl
  have hown : s.vm.findClass RJ5 = some m.cls := hown
  have hl : lv_has ls 3 [(0, .ref aB), (1, .ref (aK 0))] := hl
  rw [f_J5_append_cf1ce] at hF
  refine lv_aload_n hx hb dJ5_append_cf1ce_0 rfl (lv_at hl 1 rfl) ?_
  refine lv_ifnonnull (tgt := 9) hx hb dJ5_append_cf1ce_1 (by decide) ?_
  refine lv_aload_n hx hb dJ5_append_cf1ce_9 rfl (lv_at hl 1 rfl) ?_
  obtain ⟨v1, hv1, hF⟩ := oB hF
  refine call_i (wr := [(aB, .inr (6, [.ref aBv, .int bC, .int bM, .int bN])), (aBv, .inl (K 7, 16, .inl bV))]) (wn := [(aB, .inr (6, [.ref aBv, .int bC, .int bM, .int bN])), (aBv, .inl (K 7, 16, .inl bV))]) (va_runV (As := []) (rest := []) ⟨hx, hb, hml, hown, hts⟩ (c_J0_length_8abf5 l nT tT aK aV D K (TYB K) v1 hv1 s.heap.size) (cwV 0 hts gJ5_append_cf1ce_J0_length_8abf5 rfl rfl rfl (by decide +kernel) ⟨(Nat.le_of_ble_eq_true rfl), (Nat.le_of_ble_eq_true rfl)⟩) (prVT hX hE hK hP hD hS hA [] rfl rfl) rfl rfl hl.1 rfl (lv_room (Nat.le_of_ble_eq_true rfl)) dJ5_append_cf1ce_10 ⟨(Nat.le_of_ble_eq_true rfl), (Nat.le_of_ble_eq_true rfl)⟩) hP hD hS hA [] [0, 1] [0, 1] rfl rfl rfl (by decide) rfl rfl (fun H locs hP hD hS => ?_)
  refine lv_istore_n (lv' := [(2, .int v1.1), (0, .ref aB), (1, .ref (aK 0))]) hx hb dJ5_append_cf1ce_13 rfl hl (by decide) rfl (fun ls hl => ?_)
  refine lv_aload_n hx hb dJ5_append_cf1ce_14 rfl (lv_at hl 1 rfl) ?_
  refine lv_aload_n hx hb dJ5_append_cf1ce_15 rfl (lv_at hl 1 rfl) ?_
  refine va_get (D := D) (ci := 6) (v := .int bN) (C := RJ4) (T := TJ4) (N := 4) hx hb hts (fun _ h => List.mem_cons_of_mem _ (List.mem_append_left _ (List.mem_append_right _ h))) hown hK hP 0 rfl rfl 3 (by decide) (hts (.fieldLink RJ5 79 "java/lang/AbstractStringBuilder" "count" "I") (List.mem_of_getElem? (i := 1) rfl)) (fun _ h9 => h9) rfl dJ5_append_cf1ce_16 ?_
  refine lv_iload_n hx hb dJ5_append_cf1ce_19 rfl (lv_at hl 0 rfl) ?_
  refine lv_iadd hx hb dJ5_append_cf1ce_20 ?_
  obtain ⟨v2, hv2, hF⟩ := oB hF
  refine call_v (wr := []) (wn := [(aB, .inr (6, [.ref aBv, .int bC, .int bM, .int bN])), (aBv, .inl (K 7, 16, .inl bV))]) (va_runU (As := [.int (bN + v1.1)]) (rest := []) ⟨hx, hb, hml, hown, hts⟩ (c_J5_ensureCapacityInternal_d00df l D K aB aBv bC bM bN bV (bN + v1.1) v2 hv2 H.size) (va_cwU 1 hts gJ5_append_cf1ce_J5_ensureCapacityInternal_d00df_u100J4 rfl rfl rfl rfl (by decide +kernel) ⟨(Nat.le_of_ble_eq_true rfl), (Nat.le_of_ble_eq_true rfl)⟩) (prV hE hK hP hD hS hA [0, 1] rfl rfl 6 0 rfl rfl rfl) rfl rfl hl.1 rfl (lv_room (Nat.le_of_ble_eq_true rfl)) dJ5_append_cf1ce_21 ⟨(Nat.le_of_ble_eq_true rfl), (Nat.le_of_ble_eq_true rfl)⟩) hP hD hS hA [0, 1] [] [0, 1] rfl rfl rfl (by decide) rfl rfl (fun H locs hP hD hS => ?_)
  refine lv_aload_n hx hb dJ5_append_cf1ce_24 rfl (lv_at hl 1 rfl) ?_
  refine lv_aload_n hx hb dJ5_append_cf1ce_25 rfl (lv_at hl 1 rfl) ?_
  refine va_get (D := D) (ci := 6) (v := .int bN) (C := RJ4) (T := TJ4) (N := 4) hx hb hts (fun _ h => List.mem_cons_of_mem _ (List.mem_append_left _ (List.mem_append_right _ h))) hown hK hP 0 rfl rfl 3 (by decide) (hts (.fieldLink RJ5 79 "java/lang/AbstractStringBuilder" "count" "I") (List.mem_of_getElem? (i := 1) rfl)) (fun _ h9 => h9) rfl dJ5_append_cf1ce_26 ?_
  refine lv_aload_n hx hb dJ5_append_cf1ce_29 rfl (lv_at hl 2 rfl) ?_
  obtain ⟨v3, hv3, hF⟩ := oB hF
  refine call_v (wr := []) (wn := [(aB, .inr (6, [.ref aBv, .int bC, .int bM, .int bN])), (aBv, .inl (K 7, 16, .inl v3))]) (va_runU (As := [.int bN, .ref (aK 0)]) (rest := []) ⟨hx, hb, hml, hown, hts⟩ (c_J5_putStringAt_47b60 l nT tT aK aV D K aB aBv bC bM bN bV bN v3 hv3 H.size) (va_cwU 2 hts gJ5_append_cf1ce_J5_putStringAt_47b60_u208J4 rfl rfl rfl rfl (by decide +kernel) ⟨(Nat.le_of_ble_eq_true rfl), (Nat.le_of_ble_eq_true rfl)⟩) (prVE ExT_ok (hX_call ExT_ok hX hD hS hA [0, 1] rfl) hE hK hP hD hS hA [0, 1] rfl rfl 6 0 rfl rfl rfl) rfl rfl hl.1 rfl (lv_room (Nat.le_of_ble_eq_true rfl)) dJ5_append_cf1ce_30 ⟨(Nat.le_of_ble_eq_true rfl), (Nat.le_of_ble_eq_true rfl)⟩) hP hD hS hA [0, 1] [] [0, 1] rfl rfl rfl (by decide) rfl rfl (fun H locs hP hD hS => ?_)
  refine lv_aload_n hx hb dJ5_append_cf1ce_33 rfl (lv_at hl 1 rfl) ?_
  refine lv_dup hx hb dJ5_append_cf1ce_34 rfl ?_
  refine va_get (D := D) (ci := 6) (v := .int bN) (C := RJ4) (T := TJ4) (N := 4) hx hb hts (fun _ h => List.mem_cons_of_mem _ (List.mem_append_left _ (List.mem_append_right _ h))) hown hK hP 0 rfl rfl 3 (by decide) (hts (.fieldLink RJ5 79 "java/lang/AbstractStringBuilder" "count" "I") (List.mem_of_getElem? (i := 1) rfl)) (fun _ h9 => h9) rfl dJ5_append_cf1ce_35 ?_
  refine lv_iload_n hx hb dJ5_append_cf1ce_38 rfl (lv_at hl 0 rfl) ?_
  refine lv_iadd hx hb dJ5_append_cf1ce_39 ?_
  refine va_put (D := D) (ci := 6) (v := .int (bN + v1.1)) (ty := .int) (C := RJ4) (T := TJ4) (N := 4) hx hb hts (fun _ h => List.mem_cons_of_mem _ (List.mem_append_left _ (List.mem_append_right _ h))) tyJ4 tyJ4_ok nmJ4 hown hK hP hD hS 0 rfl rfl 3 (by decide) (hts (.fieldLink RJ5 79 "java/lang/AbstractStringBuilder" "count" "I") (List.mem_of_getElem? (i := 1) rfl)) (fun _ h9 => h9) rfl (by decide +kernel) rfl rfl (Nat.le_of_ble_eq_true rfl) dJ5_append_cf1ce_40 (fun H locs hP hD hS => ?_)
  have hP : va_P D vwC7 [(aB, .inr (6, [.ref aBv, .int bC, .int bM, .int (bN + v1.1)])), (aBv, .inl (K 7, 16, .inl v3))] H := hP
  have hD : va_D A [(aB, .inr (6, [.ref aBv, .int bC, .int bM, .int (bN + v1.1)])), (aBv, .inl (K 7, 16, .inl v3))] := hD
  refine lv_aload_n hx hb dJ5_append_cf1ce_43 rfl (lv_at hl 1 rfl) ?_
  exact fin_r (u := (bN + v1.1, v3)) hF hx hb hr hlocks hK hP hD hS (Nat.le_of_ble_eq_true rfl) (Nat.le_of_ble_eq_true rfl) dJ5_append_cf1ce_44
abbrev RM_J4_append_15ec4 : Room := { frames := 4, cells := 0, slots := 0, locals := 187 }
abbrev MC_J4_append_15ec4 : Nat := 0
abbrev MS_J4_append_15ec4 : Nat := 0
abbrev wf_J4_append_15ec4 (K : Nat → ClassId) (aB : Nat) (aBv : Nat) (bC : Int32) (bM : Int32) (v : Int32 × (Nat → Int32)) : va_W := [(aB, .inr (6, [.ref aBv, .int bC, .int bM, .int v.1])), (aBv, .inl (K 7, 16, .inl v.2))]
set_option maxHeartbeats 4000000 in
set_option maxRecDepth 100000 in
theorem c_J4_append_15ec4 (l : Launch) (nT : Nat) (tT : List Int32) (aK aV : Nat → Nat) (D : va_G) (K : Nat → ClassId) (aB : Nat) (aBv : Nat) (bC : Int32) (bM : Int32) (bN : Int32) (bV : Nat → Int32)  (v : Int32 × (Nat → Int32)) (hF : f_J4_append_15ec4 nT tT bC bN bV = some v) (sz : Nat) :
    (Met l yJ4_append_15ec4 wsJ4_append_15ec4 RM_J4_append_15ec4 (PCE (ExT nT tT aK aV) D (TYB K) [(aB, .inr (6, [.ref aBv, .int bC, .int bM, .int bN])), (aBv, .inl (K 7, 16, .inl bV))] [.ref aB, .ref (aK 0)] sz) (QR D (TYB K) aB (wf_J4_append_15ec4 K aB aBv bC bM) v (va_A [(aB, .inr (6, [.ref aBv, .int bC, .int bM, .int bN])), (aBv, .inl (K 7, 16, .inl bV))] sz)) MC_J4_append_15ec4 MS_J4_append_15ec4 (va_A [(aB, .inr (6, [.ref aBv, .int bC, .int bM, .int bN])), (aBv, .inl (K 7, 16, .inl bV))] sz)) := by
  refine proE (Qf := fun A => QR D (TYB K) aB (wf_J4_append_15ec4 K aB aBv bC bM) v A) (cc := cJ4_append_15ec4) (maxL := 2) (ret := (some (.object "java/lang/StringBuilder"))) (by decide +kernel) rfl (Nat.le_of_ble_eq_true rfl) ?_
  intro p e s m args below meth c hx hb hr hts hown hlocks hml hK A hA hE hX hP hD hS ls hl
  have hown : s.vm.findClass RJ4 = some m.cls := hown
  have hl : lv_has ls 2 [(0, .ref aB), (1, .ref (aK 0))] := hl
  rw [f_J4_append_15ec4] at hF
  refine lv_aload_n hx hb dJ4_append_15ec4_0 rfl (lv_at hl 0 rfl) ?_
  refine lv_aload_n hx hb dJ4_append_15ec4_1 rfl (lv_at hl 1 rfl) ?_
  obtain ⟨v1, hv1, hF⟩ := oB hF
  refine call_r (wr := []) (wn := [(aB, .inr (6, [.ref aBv, .int bC, .int bM, .int v1.1])), (aBv, .inl (K 7, 16, .inl v1.2))]) (va_runSU (hK.1 6 _ rfl).2 (As := [.ref (aK 0)]) (rest := []) ⟨hx, hb, hml, hown, hts⟩ (c_J5_append_cf1ce l nT tT aK aV D K aB aBv bC bM bN bV v1 hv1 s.heap.size) (va_cwSU 1 hts gJ4_append_15ec4_J5_append_cf1ce_s29 rfl rfl rfl (by decide +kernel) ⟨(Nat.le_of_ble_eq_true rfl), (Nat.le_of_ble_eq_true rfl)⟩) (prVE ExT_ok (hX_call ExT_ok hX hD hS hA [0, 1] rfl) hE hK hP hD hS hA [0, 1] rfl rfl 6 0 rfl rfl rfl) rfl rfl hl.1 rfl (lv_room (Nat.le_of_ble_eq_true rfl)) dJ4_append_15ec4_2 ⟨(Nat.le_of_ble_eq_true rfl), (Nat.le_of_ble_eq_true rfl)⟩) hP hD hS hA [0, 1] [] [0, 1] rfl rfl rfl (by decide) rfl rfl (fun H locs hP hD hS => ?_)
  refine lv_pop hx hb dJ4_append_15ec4_5 rfl ?_
  refine lv_aload_n hx hb dJ4_append_15ec4_6 rfl (lv_at hl 0 rfl) ?_
  exact fin_r (u := (v1.1, v1.2)) hF hx hb hr hlocks hK hP hD hS (Nat.le_of_ble_eq_true rfl) (Nat.le_of_ble_eq_true rfl) dJ4_append_15ec4_7
abbrev RM_J6_stringSize_0f7a4 : Room := { frames := 0, cells := 0, slots := 0, locals := 0 }
abbrev MC_J6_stringSize_0f7a4 : Nat := 0
abbrev MS_J6_stringSize_0f7a4 : Nat := 0
abbrev wf_J6_stringSize_0f7a4 (K : Nat → ClassId)   (v : Int32 × Unit) : va_W := []
set_option maxHeartbeats 4000000 in
set_option maxRecDepth 100000 in
theorem c_J6_stringSize_0f7a4 (l : Launch) (D : va_G) (K : Nat → ClassId) (tys : List (ClassId × FieldType))   (p1 : Int32) (v : Int32 × Unit) (hF : f_J6_stringSize_0f7a4 p1 = some v) (sz : Nat) :
    (Met l yJ6_stringSize_0f7a4 wsJ6_stringSize_0f7a4 RM_J6_stringSize_0f7a4 (PC D tys [] [.int p1] sz) (QI D tys (wf_J6_stringSize_0f7a4 K) v (va_A [] sz)) MC_J6_stringSize_0f7a4 MS_J6_stringSize_0f7a4 (va_A [] sz)) := by
  refine pro (Qf := fun A => QI D tys (wf_J6_stringSize_0f7a4 K) v A) (cc := cJ6_stringSize_0f7a4) (maxL := 4) (ret := (some .int)) (by decide +kernel) rfl (Nat.le_of_ble_eq_true rfl) ?_
  intro p e s m args below meth c hx hb hr hts hown hlocks hml hini hK A hA hE hP hD hS ls hl
  have hown : s.vm.findClass RJ6 = some m.cls := hown
  have hl : lv_has ls 4 [(0, .int p1)] := hl
  have loop_16 : ∀ (y16_0 : Int32) (y16_1 : Int32) (n : Nat) (y16_2 : Int32) (y16_3 : Int32), f_J6_stringSize_0f7a4_L16 y16_0 y16_1 n y16_2 y16_3 = some v → ∀ (H : Heap) (locs : List Loc), va_P D vwC7 [] H → va_D A [] → va_S A s.heap H locs → ∀ ls : Array Slot, lv_has ls 4 [(0, .int y16_0), (1, .int y16_1), (2, .int y16_2), (3, .int y16_3)] → W p l e RM_J6_stringSize_0f7a4 s m args below meth c H locs 0 0 (MQ below (QI D tys (wf_J6_stringSize_0f7a4 K) v A) args s MC_J6_stringSize_0f7a4 MS_J6_stringSize_0f7a4 A) (F0 m 16 ls []) := by
    intro y16_0 y16_1 n
    induction n with
    | zero =>
      intro y16_2 y16_3 hF
      exact nomatch hF
    | succ n ih =>
      intro y16_2 y16_3 hF H locs hP hD hS ls hl
      rw [f_J6_stringSize_0f7a4_L16.eq_2] at hF
      refine lv_iload_n hx hb dJ6_stringSize_0f7a4_16 rfl (lv_at hl 3 rfl) ?_
      refine lv_bipush (v := (10 : Int32)) hx hb dJ6_stringSize_0f7a4_17 (by decide) ?_
      refine lv_icmp_ge (tgt := 42) hx hb dJ6_stringSize_0f7a4_19 (by decide) (fun c2 => ?_) (fun c2 => ?_)
      · have hF := oT c2 hF
        refine lv_bipush (v := (10 : Int32)) hx hb dJ6_stringSize_0f7a4_42 (by decide) ?_
        refine lv_iload_n hx hb dJ6_stringSize_0f7a4_44 rfl (lv_at hl 1 rfl) ?_
        refine lv_iadd hx hb dJ6_stringSize_0f7a4_45 ?_
        exact fin_i (u := ((10 : Int32) + y16_1, ())) hF hx hb hr hlocks hK hP hD hS (Nat.le_of_ble_eq_true rfl) (Nat.le_of_ble_eq_true rfl) dJ6_stringSize_0f7a4_46
      · have hF := oF c2 hF
        refine lv_iload_n hx hb dJ6_stringSize_0f7a4_22 rfl (lv_at hl 0 rfl) ?_
        refine lv_iload_n hx hb dJ6_stringSize_0f7a4_23 rfl (lv_at hl 2 rfl) ?_
        refine lv_icmp_le (tgt := 31) hx hb dJ6_stringSize_0f7a4_24 (by decide) (fun c3 => ?_) (fun c3 => ?_)
        · have hF := oT c3 hF
          refine lv_bipush (v := (10 : Int32)) hx hb dJ6_stringSize_0f7a4_31 (by decide) ?_
          refine lv_iload_n hx hb dJ6_stringSize_0f7a4_33 rfl (lv_at hl 2 rfl) ?_
          refine lv_imul hx hb dJ6_stringSize_0f7a4_34 ?_
          refine lv_istore_n (lv' := [(2, .int ((10 : Int32) * y16_2)), (0, .int y16_0), (1, .int y16_1), (3, .int y16_3)]) hx hb dJ6_stringSize_0f7a4_35 rfl hl (by decide) rfl (fun ls hl => ?_)
          refine lv_iinc (v := y16_3 + (1 : Int32)) (lv' := [(3, .int (y16_3 + (1 : Int32))), (2, .int ((10 : Int32) * y16_2)), (0, .int y16_0), (1, .int y16_1)]) hx hb dJ6_stringSize_0f7a4_36 hl (k := 3) rfl (by first | rfl | decide) (by decide) rfl (fun ls hl => ?_)
          refine lv_goto (tgt := 16) hx hb dJ6_stringSize_0f7a4_39 (by decide) ?_
          exact ih ((10 : Int32) * y16_2) (y16_3 + (1 : Int32)) hF _ _ hP hD hS _ (lv_sub hl [2, 3, 1, 0] rfl)
        · have hF := oF c3 hF
          refine lv_iload_n hx hb dJ6_stringSize_0f7a4_27 rfl (lv_at hl 3 rfl) ?_
          refine lv_iload_n hx hb dJ6_stringSize_0f7a4_28 rfl (lv_at hl 1 rfl) ?_
          refine lv_iadd hx hb dJ6_stringSize_0f7a4_29 ?_
          exact fin_i (u := (y16_3 + y16_1, ())) hF hx hb hr hlocks hK hP hD hS (Nat.le_of_ble_eq_true rfl) (Nat.le_of_ble_eq_true rfl) dJ6_stringSize_0f7a4_30
  rw [f_J6_stringSize_0f7a4] at hF
  refine lv_iconst (v := (1 : Int32)) hx hb dJ6_stringSize_0f7a4_0 (by decide) ?_
  refine lv_istore_n (lv' := [(1, .int (1 : Int32)), (0, .int p1)]) hx hb dJ6_stringSize_0f7a4_1 rfl hl (by decide) rfl (fun ls hl => ?_)
  refine lv_iload_n hx hb dJ6_stringSize_0f7a4_2 rfl (lv_at hl 1 rfl) ?_
  refine lv_if_lt (tgt := 11) hx hb dJ6_stringSize_0f7a4_3 (by decide) (fun c1 => ?_) (fun c1 => ?_)
  · have hF := oT c1 hF
    refine lv_bipush (v := (-10 : Int32)) hx hb dJ6_stringSize_0f7a4_11 (by decide) ?_
    refine lv_istore_n (lv' := [(2, .int (-10 : Int32)), (1, .int (1 : Int32)), (0, .int p1)]) hx hb dJ6_stringSize_0f7a4_13 rfl hl (by decide) rfl (fun ls hl => ?_)
    refine lv_iconst (v := (1 : Int32)) hx hb dJ6_stringSize_0f7a4_14 (by decide) ?_
    refine lv_istore_n (lv' := [(3, .int (1 : Int32)), (2, .int (-10 : Int32)), (1, .int (1 : Int32)), (0, .int p1)]) hx hb dJ6_stringSize_0f7a4_15 rfl hl (by decide) rfl (fun ls hl => ?_)
    exact loop_16 p1 (1 : Int32) FU (-10 : Int32) (1 : Int32) hF _ _ hP hD hS _ (lv_sub hl [3, 2, 1, 0] rfl)
  · have hF := oF c1 hF
    refine lv_iconst (v := (0 : Int32)) hx hb dJ6_stringSize_0f7a4_6 (by decide) ?_
    refine lv_istore_n (lv' := [(1, .int (0 : Int32)), (0, .int p1)]) hx hb dJ6_stringSize_0f7a4_7 rfl hl (by decide) rfl (fun ls hl => ?_)
    refine lv_iload_n hx hb dJ6_stringSize_0f7a4_8 rfl (lv_at hl 1 rfl) ?_
    refine lv_ineg hx hb dJ6_stringSize_0f7a4_9 ?_
    refine lv_istore_n (lv' := [(0, .int (-p1)), (1, .int (0 : Int32))]) hx hb dJ6_stringSize_0f7a4_10 rfl hl (by decide) rfl (fun ls hl => ?_)
    refine lv_bipush (v := (-10 : Int32)) hx hb dJ6_stringSize_0f7a4_11 (by decide) ?_
    refine lv_istore_n (lv' := [(2, .int (-10 : Int32)), (0, .int (-p1)), (1, .int (0 : Int32))]) hx hb dJ6_stringSize_0f7a4_13 rfl hl (by decide) rfl (fun ls hl => ?_)
    refine lv_iconst (v := (1 : Int32)) hx hb dJ6_stringSize_0f7a4_14 (by decide) ?_
    refine lv_istore_n (lv' := [(3, .int (1 : Int32)), (2, .int (-10 : Int32)), (0, .int (-p1)), (1, .int (0 : Int32))]) hx hb dJ6_stringSize_0f7a4_15 rfl hl (by decide) rfl (fun ls hl => ?_)
    exact loop_16 (-p1) (0 : Int32) FU (-10 : Int32) (1 : Int32) hF _ _ hP hD hS _ (lv_sub hl [2, 3, 1, 0] rfl)
abbrev RM_J5_isLatin1_aae02 : Room := { frames := 0, cells := 0, slots := 0, locals := 0 }
abbrev MC_J5_isLatin1_aae02 : Nat := 0
abbrev MS_J5_isLatin1_aae02 : Nat := 0
abbrev wf_J5_isLatin1_aae02 (K : Nat → ClassId) (aB : Nat) (aBv : Nat) (bC : Int32) (bM : Int32) (bN : Int32) (v : Int32 × Unit) : va_W := [(aB, .inr (6, [.ref aBv, .int bC, .int bM, .int bN]))]
set_option maxHeartbeats 4000000 in
set_option maxRecDepth 100000 in
theorem c_J5_isLatin1_aae02 (l : Launch) (D : va_G) (K : Nat → ClassId) (aB : Nat) (aBv : Nat) (bC : Int32) (bM : Int32) (bN : Int32)  (v : Int32 × Unit) (hF : f_J5_isLatin1_aae02 bC = some v) (sz : Nat) :
    (Met l yJ5_isLatin1_aae02 wsJ5_isLatin1_aae02 RM_J5_isLatin1_aae02 (PC D (TYB K) [(aB, .inr (6, [.ref aBv, .int bC, .int bM, .int bN]))] [.ref aB] sz) (QI D (TYB K) (wf_J5_isLatin1_aae02 K aB aBv bC bM bN) v (va_A [(aB, .inr (6, [.ref aBv, .int bC, .int bM, .int bN]))] sz)) MC_J5_isLatin1_aae02 MS_J5_isLatin1_aae02 (va_A [(aB, .inr (6, [.ref aBv, .int bC, .int bM, .int bN]))] sz)) := by
  refine pro (Qf := fun A => QI D (TYB K) (wf_J5_isLatin1_aae02 K aB aBv bC bM bN) v A) (cc := cJ5_isLatin1_aae02) (maxL := 1) (ret := (some .boolean)) (by decide +kernel) rfl (Nat.le_of_ble_eq_true rfl) ?_
  intro p e s m args below meth c hx hb hr hts hown hlocks hml hini hK A hA hE hP hD hS ls hl
  have hown : s.vm.findClass RJ5 = some m.cls := hown
  have hl : lv_has ls 1 [(0, .ref aB)] := hl
  rw [f_J5_isLatin1_aae02] at hF
  refine va_gets (v := .int 1) hx hb hE.2.2.2.2.2.2.2.2.1 hS hown (hts (.fieldLink RJ5 18 "java/lang/String" "COMPACT_STRINGS" "Z") (List.mem_of_getElem? (i := 1) rfl)) (fun _ h9 => h9) dJ5_isLatin1_aae02_0 ?_
  refine lv_if_eq (tgt := 17) hx hb dJ5_isLatin1_aae02_3 (by decide) (fun c9 => absurd c9 (by decide)) (fun _ => ?_)
  refine lv_aload_n hx hb dJ5_isLatin1_aae02_6 rfl (lv_at hl 0 rfl) ?_
  refine va_get (D := D) (ci := 6) (v := .int bC) (C := RJ4) (T := TJ4) (N := 4) hx hb hts (fun _ h => List.mem_cons_of_mem _ (List.mem_append_right _ h)) hown hK hP 0 rfl rfl 1 (by decide) (hts (.fieldLink RJ5 22 "java/lang/AbstractStringBuilder" "coder" "B") (List.mem_of_getElem? (i := 2) rfl)) (fun _ h9 => h9) rfl dJ5_isLatin1_aae02_7 ?_
  refine lv_if_ne (tgt := 17) hx hb dJ5_isLatin1_aae02_10 (by decide) (fun c2 => ?_) (fun c2 => ?_)
  · have hF := oF c2 hF
    refine lv_iconst (v := (0 : Int32)) hx hb dJ5_isLatin1_aae02_17 (by decide) ?_
    exact fin_z (u := ((0 : Int32), ())) hF (okN_n (ty := .boolean) (x := (0 : Int32)) (by decide)) hx hb hr hlocks hK hP hD hS (Nat.le_of_ble_eq_true rfl) (Nat.le_of_ble_eq_true rfl) dJ5_isLatin1_aae02_18
  · have hF := oT c2 hF
    refine lv_iconst (v := (1 : Int32)) hx hb dJ5_isLatin1_aae02_13 (by decide) ?_
    refine lv_goto (tgt := 18) hx hb dJ5_isLatin1_aae02_14 (by decide) ?_
    exact fin_z (u := ((1 : Int32), ())) hF (okN_n (ty := .boolean) (x := (1 : Int32)) (by decide)) hx hb hr hlocks hK hP hD hS (Nat.le_of_ble_eq_true rfl) (Nat.le_of_ble_eq_true rfl) dJ5_isLatin1_aae02_18
abbrev RM_J6_getChars_ba4f3 : Room := { frames := 0, cells := 0, slots := 0, locals := 0 }
abbrev MC_J6_getChars_ba4f3 : Nat := 0
abbrev MS_J6_getChars_ba4f3 : Nat := 0
abbrev wf_J6_getChars_ba4f3 (K : Nat → ClassId) (aBv : Nat)  (v : Int32 × (Nat → Int32)) : va_W := [(aBv, .inl (K 7, 16, .inl v.2))]
set_option maxHeartbeats 4000000 in
set_option maxRecDepth 100000 in
theorem c_J6_getChars_ba4f3 (l : Launch) (D : va_G) (K : Nat → ClassId) (aBv : Nat) (bV : Nat → Int32) (p1 : Int32) (p2 : Int32) (v : Int32 × (Nat → Int32)) (hF : f_J6_getChars_ba4f3 bV p1 p2 = some v) (sz : Nat) :
    (Met l yJ6_getChars_ba4f3 wsJ6_getChars_ba4f3 RM_J6_getChars_ba4f3 (PC D (TYB K) [(aBv, .inl (K 7, 16, .inl bV))] [.int p1, .int p2, .ref aBv] sz) (QI D (TYB K) (wf_J6_getChars_ba4f3 K aBv) v (va_A [(aBv, .inl (K 7, 16, .inl bV))] sz)) MC_J6_getChars_ba4f3 MS_J6_getChars_ba4f3 (va_A [(aBv, .inl (K 7, 16, .inl bV))] sz)) := by
  refine pro (Qf := fun A => QI D (TYB K) (wf_J6_getChars_ba4f3 K aBv) v A) (cc := cJ6_getChars_ba4f3) (maxL := 7) (ret := (some .int)) (by decide +kernel) rfl (Nat.le_of_ble_eq_true rfl) ?_
  intro p e s m args below meth c hx hb hr hts hown hlocks hml hini hK A hA hE hP hD hS ls hl
  have hown : s.vm.findClass RJ6 = some m.cls := hown
  have hl : lv_has ls 7 [(0, .int p1), (1, .int p2), (2, .ref aBv)] := hl
  rw [f_J6_getChars_ba4f3] at hF
  refine lv_iload_n hx hb dJ6_getChars_ba4f3_0 rfl (lv_at hl 1 rfl) ?_
  refine lv_istore (lv' := [(5, .int p2), (0, .int p1), (1, .int p2), (2, .ref aBv)]) hx hb dJ6_getChars_ba4f3_1 hl (by decide) rfl (fun ls hl => ?_)
  refine lv_iload_n hx hb dJ6_getChars_ba4f3_3 rfl (lv_at hl 1 rfl) ?_
  refine lv_if_ge (tgt := 11) hx hb dJ6_getChars_ba4f3_4 (by decide) (fun c1 => ?_) (fun c1 => ?_)
  · have hF := oT c1 hF
    refine lv_iconst (v := (0 : Int32)) hx hb dJ6_getChars_ba4f3_11 (by decide) ?_
    refine lv_istore (lv' := [(6, .int (0 : Int32)), (5, .int p2), (0, .int p1), (1, .int p2), (2, .ref aBv)]) hx hb dJ6_getChars_ba4f3_12 hl (by decide) rfl (fun ls hl => ?_)
    refine lv_iload hx hb dJ6_getChars_ba4f3_14 (lv_at hl 0 rfl) ?_
    refine lv_if_ne (tgt := 22) hx hb dJ6_getChars_ba4f3_16 (by decide) (fun c9 => absurd (by decide) c9) (fun _ => ?_)
    refine lv_iload_n hx hb dJ6_getChars_ba4f3_19 rfl (lv_at hl 2 rfl) ?_
    refine lv_ineg hx hb dJ6_getChars_ba4f3_20 ?_
    refine lv_istore_n (lv' := [(0, .int (-p1)), (6, .int (0 : Int32)), (5, .int p2), (1, .int p2), (2, .ref aBv)]) hx hb dJ6_getChars_ba4f3_21 rfl hl (by decide) rfl (fun ls hl => ?_)
    refine lv_iload_n hx hb dJ6_getChars_ba4f3_22 rfl (lv_at hl 0 rfl) ?_
    refine lv_bipush (v := (-100 : Int32)) hx hb dJ6_getChars_ba4f3_23 (by decide) ?_
    refine lv_icmp_gt (tgt := 72) hx hb dJ6_getChars_ba4f3_25 (by decide) (fun c3 => ?_) (fun c3 => ?_)
    · have hF := oT c3 hF
      refine lv_aload_n hx hb dJ6_getChars_ba4f3_72 rfl (lv_at hl 4 rfl) ?_
      refine lv_iinc (v := p2 + (-1 : Int32)) (lv' := [(5, .int (p2 + (-1 : Int32))), (0, .int (-p1)), (6, .int (0 : Int32)), (1, .int p2), (2, .ref aBv)]) hx hb dJ6_getChars_ba4f3_73 hl (k := 2) rfl (by first | rfl | decide) (by decide) rfl (fun ls hl => ?_)
      refine lv_iload hx hb dJ6_getChars_ba4f3_76 (lv_at hl 0 rfl) ?_
      obtain ⟨tOnes, htOnes⟩ := hE.2.2.2.2.2.2.2.2.2.2.1
      refine va_gets (v := .ref tOnes) hx hb htOnes.1 hS hown (hts (.fieldLink RJ6 83 "java/lang/Integer" "DigitOnes" "[B") (List.mem_of_getElem? (i := 1) rfl)) (fun _ h9 => h9) dJ6_getChars_ba4f3_78 ?_
      refine lv_iload_n hx hb dJ6_getChars_ba4f3_81 rfl (lv_at hl 1 rfl) ?_
      refine lv_ineg hx hb dJ6_getChars_ba4f3_82 ?_
      obtain ⟨g4, hF⟩ := oG hF
      refine va_tb (v := .int (envOnes.getD (-(-p1)).toNatClampNeg 0)) hx hb htOnes.2 hS (inB_in g4) rfl dJ6_getChars_ba4f3_83 ?_
      obtain ⟨g5, hF⟩ := oG hF
      refine va_bast hx hb hK hP hD hS 0 0 rfl rfl (inB_in g5) dJ6_getChars_ba4f3_84 (fun H locs hP hD hS => ?_)
      have hP : va_P D vwC7 [(aBv, .inl (K 7, 16, .inl (upd bV (p2 + (-1 : Int32)).toNatClampNeg (vp_nar .byte (envOnes.getD (-(-p1)).toNatClampNeg 0)))))] H := hP
      have hD : va_D A [(aBv, .inl (K 7, 16, .inl (upd bV (p2 + (-1 : Int32)).toNatClampNeg (vp_nar .byte (envOnes.getD (-(-p1)).toNatClampNeg 0)))))] := hD
      refine lv_iload_n hx hb dJ6_getChars_ba4f3_85 rfl (lv_at hl 1 rfl) ?_
      refine lv_bipush (v := (-9 : Int32)) hx hb dJ6_getChars_ba4f3_86 (by decide) ?_
      refine lv_icmp_ge (tgt := 104) hx hb dJ6_getChars_ba4f3_88 (by decide) (fun c6 => ?_) (fun c6 => ?_)
      · have hF := oT c6 hF
        refine lv_iload hx hb dJ6_getChars_ba4f3_104 (lv_at hl 2 rfl) ?_
        refine lv_if_eq (tgt := 118) hx hb dJ6_getChars_ba4f3_106 (by decide) (fun _ => ?_) (fun c9 => absurd (by decide) c9)
        refine lv_iload hx hb dJ6_getChars_ba4f3_118 (lv_at hl 0 rfl) ?_
        exact fin_i (u := (p2 + (-1 : Int32), upd bV (p2 + (-1 : Int32)).toNatClampNeg (vp_nar .byte (envOnes.getD (-(-p1)).toNatClampNeg 0)))) hF hx hb hr hlocks hK hP hD hS (Nat.le_of_ble_eq_true rfl) (Nat.le_of_ble_eq_true rfl) dJ6_getChars_ba4f3_120
      · have hF := oF c6 hF
        refine lv_aload_n hx hb dJ6_getChars_ba4f3_91 rfl (lv_at hl 4 rfl) ?_
        refine lv_iinc (v := (p2 + (-1 : Int32)) + (-1 : Int32)) (lv' := [(5, .int ((p2 + (-1 : Int32)) + (-1 : Int32))), (0, .int (-p1)), (6, .int (0 : Int32)), (1, .int p2), (2, .ref aBv)]) hx hb dJ6_getChars_ba4f3_92 hl (k := 0) rfl (by first | rfl | decide) (by decide) rfl (fun ls hl => ?_)
        refine lv_iload hx hb dJ6_getChars_ba4f3_95 (lv_at hl 0 rfl) ?_
        obtain ⟨tTens, htTens⟩ := hE.2.2.2.2.2.2.2.2.2.2.2
        refine va_gets (v := .ref tTens) hx hb htTens.1 hS hown (hts (.fieldLink RJ6 87 "java/lang/Integer" "DigitTens" "[B") (List.mem_of_getElem? (i := 2) rfl)) (fun _ h9 => h9) dJ6_getChars_ba4f3_97 ?_
        refine lv_iload_n hx hb dJ6_getChars_ba4f3_100 rfl (lv_at hl 1 rfl) ?_
        refine lv_ineg hx hb dJ6_getChars_ba4f3_101 ?_
        obtain ⟨g8, hF⟩ := oG hF
        refine va_tb (v := .int (envTens.getD (-(-p1)).toNatClampNeg 0)) hx hb htTens.2 hS (inB_in g8) rfl dJ6_getChars_ba4f3_102 ?_
        obtain ⟨g9, hF⟩ := oG hF
        refine va_bast hx hb hK hP hD hS 0 0 rfl rfl (inB_in g9) dJ6_getChars_ba4f3_103 (fun H locs hP hD hS => ?_)
        have hP : va_P D vwC7 [(aBv, .inl (K 7, 16, .inl (upd (upd bV (p2 + (-1 : Int32)).toNatClampNeg (vp_nar .byte (envOnes.getD (-(-p1)).toNatClampNeg 0))) ((p2 + (-1 : Int32)) + (-1 : Int32)).toNatClampNeg (vp_nar .byte (envTens.getD (-(-p1)).toNatClampNeg 0)))))] H := hP
        have hD : va_D A [(aBv, .inl (K 7, 16, .inl (upd (upd bV (p2 + (-1 : Int32)).toNatClampNeg (vp_nar .byte (envOnes.getD (-(-p1)).toNatClampNeg 0))) ((p2 + (-1 : Int32)) + (-1 : Int32)).toNatClampNeg (vp_nar .byte (envTens.getD (-(-p1)).toNatClampNeg 0)))))] := hD
        refine lv_iload hx hb dJ6_getChars_ba4f3_104 (lv_at hl 2 rfl) ?_
        refine lv_if_eq (tgt := 118) hx hb dJ6_getChars_ba4f3_106 (by decide) (fun _ => ?_) (fun c9 => absurd (by decide) c9)
        refine lv_iload hx hb dJ6_getChars_ba4f3_118 (lv_at hl 0 rfl) ?_
        exact fin_i (u := ((p2 + (-1 : Int32)) + (-1 : Int32), upd (upd bV (p2 + (-1 : Int32)).toNatClampNeg (vp_nar .byte (envOnes.getD (-(-p1)).toNatClampNeg 0))) ((p2 + (-1 : Int32)) + (-1 : Int32)).toNatClampNeg (vp_nar .byte (envTens.getD (-(-p1)).toNatClampNeg 0)))) hF hx hb hr hlocks hK hP hD hS (Nat.le_of_ble_eq_true rfl) (Nat.le_of_ble_eq_true rfl) dJ6_getChars_ba4f3_120
    · have hF := oF c3 hF
      exact nomatch hF
  · have hF := oF c1 hF
    exact nomatch hF
abbrev RM_J5_append_c97b9 : Room := { frames := 1, cells := 0, slots := 0, locals := 26 }
abbrev MC_J5_append_c97b9 : Nat := 0
abbrev MS_J5_append_c97b9 : Nat := 0
abbrev wf_J5_append_c97b9 (K : Nat → ClassId) (aB : Nat) (aBv : Nat) (bC : Int32) (bM : Int32) (v : Int32 × (Nat → Int32)) : va_W := [(aB, .inr (6, [.ref aBv, .int bC, .int bM, .int v.1])), (aBv, .inl (K 7, 16, .inl v.2))]
set_option maxHeartbeats 4000000 in
set_option maxRecDepth 100000 in
theorem c_J5_append_c97b9 (l : Launch) (D : va_G) (K : Nat → ClassId) (aB : Nat) (aBv : Nat) (bC : Int32) (bM : Int32) (bN : Int32) (bV : Nat → Int32) (p1 : Int32) (v : Int32 × (Nat → Int32)) (hF : f_J5_append_c97b9 bC bN bV p1 = some v) (sz : Nat) :
    (Met l yJ5_append_c97b9 wsJ5_append_c97b9 RM_J5_append_c97b9 (PC D (TYB K) [(aB, .inr (6, [.ref aBv, .int bC, .int bM, .int bN])), (aBv, .inl (K 7, 16, .inl bV))] [.ref aB, .int p1] sz) (QR D (TYB K) aB (wf_J5_append_c97b9 K aB aBv bC bM) v (va_A [(aB, .inr (6, [.ref aBv, .int bC, .int bM, .int bN])), (aBv, .inl (K 7, 16, .inl bV))] sz)) MC_J5_append_c97b9 MS_J5_append_c97b9 (va_A [(aB, .inr (6, [.ref aBv, .int bC, .int bM, .int bN])), (aBv, .inl (K 7, 16, .inl bV))] sz)) := by
  refine pro (Qf := fun A => QR D (TYB K) aB (wf_J5_append_c97b9 K aB aBv bC bM) v A) (cc := cJ5_append_c97b9) (maxL := 4) (ret := (some (.object "java/lang/AbstractStringBuilder"))) (by decide +kernel) rfl (Nat.le_of_ble_eq_true rfl) ?_
  intro p e s m args below meth c hx hb hr hts hown hlocks hml hini hK A hA hE hP hD hS ls hl
  have hown : s.vm.findClass RJ5 = some m.cls := hown
  have hl : lv_has ls 4 [(0, .ref aB), (1, .int p1)] := hl
  rw [f_J5_append_c97b9] at hF
  refine lv_aload_n hx hb dJ5_append_c97b9_0 rfl (lv_at hl 0 rfl) ?_
  refine va_get (D := D) (ci := 6) (v := .int bN) (C := RJ4) (T := TJ4) (N := 4) hx hb hts (fun _ h => List.mem_cons_of_mem _ (List.mem_append_right _ h)) hown hK hP 0 rfl rfl 3 (by decide) (hts (.fieldLink RJ5 79 "java/lang/AbstractStringBuilder" "count" "I") (List.mem_of_getElem? (i := 1) rfl)) (fun _ h9 => h9) rfl dJ5_append_c97b9_1 ?_
  refine lv_istore_n (lv' := [(2, .int bN), (0, .ref aB), (1, .int p1)]) hx hb dJ5_append_c97b9_4 rfl hl (by decide) rfl (fun ls hl => ?_)
  refine lv_iload_n hx hb dJ5_append_c97b9_5 rfl (lv_at hl 0 rfl) ?_
  refine lv_iload_n hx hb dJ5_append_c97b9_6 rfl (lv_at hl 2 rfl) ?_
  obtain ⟨v1, hv1, hF⟩ := oB hF
  refine call_i (wr := [(aB, .inr (6, [.ref aBv, .int bC, .int bM, .int bN])), (aBv, .inl (K 7, 16, .inl bV))]) (wn := [(aB, .inr (6, [.ref aBv, .int bC, .int bM, .int bN])), (aBv, .inl (K 7, 16, .inl bV))]) (va_runS (As := [.int p1]) (rest := [.int bN]) ⟨hx, hb, hml, hown, hts⟩ (c_J6_stringSize_0f7a4 l D K (TYB K) p1 v1 hv1 s.heap.size) (va_cwS 1 hts gJ5_append_c97b9_J6_stringSize_0f7a4 rfl rfl rfl (by decide +kernel) ⟨(Nat.le_of_ble_eq_true rfl), (Nat.le_of_ble_eq_true rfl)⟩) (prS hE hK hP hD hS hA [] rfl rfl) rfl rfl hl.1 rfl (lv_room (Nat.le_of_ble_eq_true rfl)) dJ5_append_c97b9_7 ⟨(Nat.le_of_ble_eq_true rfl), (Nat.le_of_ble_eq_true rfl)⟩) hP hD hS hA [] [0, 1] [0, 1] rfl rfl rfl (by decide) rfl rfl (fun H locs hP hD hS => ?_)
  refine lv_iadd hx hb dJ5_append_c97b9_10 ?_
  refine lv_istore_n (lv' := [(3, .int (bN + v1.1)), (2, .int bN), (0, .ref aB), (1, .int p1)]) hx hb dJ5_append_c97b9_11 rfl hl (by decide) rfl (fun ls hl => ?_)
  refine lv_aload_n hx hb dJ5_append_c97b9_12 rfl (lv_at hl 2 rfl) ?_
  refine lv_iload_n hx hb dJ5_append_c97b9_13 rfl (lv_at hl 0 rfl) ?_
  obtain ⟨v2, hv2, hF⟩ := oB hF
  refine call_v (wr := []) (wn := [(aB, .inr (6, [.ref aBv, .int bC, .int bM, .int bN])), (aBv, .inl (K 7, 16, .inl bV))]) (va_runU (As := [.int (bN + v1.1)]) (rest := []) ⟨hx, hb, hml, hown, hts⟩ (c_J5_ensureCapacityInternal_d00df l D K aB aBv bC bM bN bV (bN + v1.1) v2 hv2 H.size) (va_cwU 1 hts gJ5_append_c97b9_J5_ensureCapacityInternal_d00df_u100J4 rfl rfl rfl rfl (by decide +kernel) ⟨(Nat.le_of_ble_eq_true rfl), (Nat.le_of_ble_eq_true rfl)⟩) (prV hE hK hP hD hS hA [0, 1] rfl rfl 6 0 rfl rfl rfl) rfl rfl hl.1 rfl (lv_room (Nat.le_of_ble_eq_true rfl)) dJ5_append_c97b9_14 ⟨(Nat.le_of_ble_eq_true rfl), (Nat.le_of_ble_eq_true rfl)⟩) hP hD hS hA [0, 1] [] [0, 1] rfl rfl rfl (by decide) rfl rfl (fun H locs hP hD hS => ?_)
  refine lv_aload_n hx hb dJ5_append_c97b9_17 rfl (lv_at hl 2 rfl) ?_
  obtain ⟨v3, hv3, hF⟩ := oB hF
  refine call_i (wr := [(aBv, .inl (K 7, 16, .inl bV))]) (wn := [(aB, .inr (6, [.ref aBv, .int bC, .int bM, .int bN])), (aBv, .inl (K 7, 16, .inl bV))]) (va_runU (As := []) (rest := []) ⟨hx, hb, hml, hown, hts⟩ (c_J5_isLatin1_aae02 l D K aB aBv bC bM bN v3 hv3 H.size) (va_cwU 0 hts gJ5_append_c97b9_J5_isLatin1_aae02_u83J4 rfl rfl rfl rfl (by decide +kernel) ⟨(Nat.le_of_ble_eq_true rfl), (Nat.le_of_ble_eq_true rfl)⟩) (prV hE hK hP hD hS hA [0] rfl rfl 6 0 rfl rfl rfl) rfl rfl hl.1 rfl (lv_room (Nat.le_of_ble_eq_true rfl)) dJ5_append_c97b9_18 ⟨(Nat.le_of_ble_eq_true rfl), (Nat.le_of_ble_eq_true rfl)⟩) hP hD hS hA [0] [1] [1, 0] rfl rfl rfl (by decide) rfl rfl (fun H locs hP hD hS => ?_)
  refine lv_if_eq (tgt := 37) hx hb dJ5_append_c97b9_21 (by decide) (fun c4 => ?_) (fun c4 => ?_)
  · have hF := oT c4 hF
    exact nomatch hF
  · have hF := oF c4 hF
    refine lv_iload_n hx hb dJ5_append_c97b9_24 rfl (lv_at hl 3 rfl) ?_
    refine lv_iload_n hx hb dJ5_append_c97b9_25 rfl (lv_at hl 0 rfl) ?_
    refine lv_aload_n hx hb dJ5_append_c97b9_26 rfl (lv_at hl 2 rfl) ?_
    refine va_get (D := D) (ci := 6) (v := .ref aBv) (C := RJ4) (T := TJ4) (N := 4) hx hb hts (fun _ h => List.mem_cons_of_mem _ (List.mem_append_right _ h)) hown hK hP 0 rfl rfl 0 (by decide) (hts (.fieldLink RJ5 15 "java/lang/AbstractStringBuilder" "value" "[B") (List.mem_of_getElem? (i := 2) rfl)) (fun _ h9 => h9) rfl dJ5_append_c97b9_27 ?_
    obtain ⟨v5, hv5, hF⟩ := oB hF
    refine call_i (wr := [(aB, .inr (6, [.ref aBv, .int bC, .int bM, .int bN]))]) (wn := [(aB, .inr (6, [.ref aBv, .int bC, .int bM, .int bN])), (aBv, .inl (K 7, 16, .inl v5.2))]) (va_runS (As := [.int p1, .int (bN + v1.1), .ref aBv]) (rest := []) ⟨hx, hb, hml, hown, hts⟩ (c_J6_getChars_ba4f3 l D K aBv bV p1 (bN + v1.1) v5 hv5 H.size) (va_cwS 3 hts gJ5_append_c97b9_J6_getChars_ba4f3 rfl rfl rfl (by decide +kernel) ⟨(Nat.le_of_ble_eq_true rfl), (Nat.le_of_ble_eq_true rfl)⟩) (prS hE hK hP hD hS hA [1] rfl rfl) rfl rfl hl.1 rfl (lv_room (Nat.le_of_ble_eq_true rfl)) dJ5_append_c97b9_30 ⟨(Nat.le_of_ble_eq_true rfl), (Nat.le_of_ble_eq_true rfl)⟩) hP hD hS hA [1] [0] [0, 1] rfl rfl rfl (by decide) rfl rfl (fun H locs hP hD hS => ?_)
    refine lv_pop hx hb dJ5_append_c97b9_33 rfl ?_
    refine lv_goto (tgt := 48) hx hb dJ5_append_c97b9_34 (by decide) ?_
    refine lv_aload_n hx hb dJ5_append_c97b9_48 rfl (lv_at hl 2 rfl) ?_
    refine lv_iload_n hx hb dJ5_append_c97b9_49 rfl (lv_at hl 0 rfl) ?_
    refine va_put (D := D) (ci := 6) (v := .int (bN + v1.1)) (ty := .int) (C := RJ4) (T := TJ4) (N := 4) hx hb hts (fun _ h => List.mem_cons_of_mem _ (List.mem_append_right _ h)) tyJ4 tyJ4_ok nmJ4 hown hK hP hD hS 0 rfl rfl 3 (by decide) (hts (.fieldLink RJ5 79 "java/lang/AbstractStringBuilder" "count" "I") (List.mem_of_getElem? (i := 1) rfl)) (fun _ h9 => h9) rfl (by decide +kernel) rfl rfl (Nat.le_of_ble_eq_true rfl) dJ5_append_c97b9_50 (fun H locs hP hD hS => ?_)
    have hP : va_P D vwC7 [(aB, .inr (6, [.ref aBv, .int bC, .int bM, .int (bN + v1.1)])), (aBv, .inl (K 7, 16, .inl v5.2))] H := hP
    have hD : va_D A [(aB, .inr (6, [.ref aBv, .int bC, .int bM, .int (bN + v1.1)])), (aBv, .inl (K 7, 16, .inl v5.2))] := hD
    refine lv_aload_n hx hb dJ5_append_c97b9_53 rfl (lv_at hl 2 rfl) ?_
    exact fin_r (u := (bN + v1.1, v5.2)) hF hx hb hr hlocks hK hP hD hS (Nat.le_of_ble_eq_true rfl) (Nat.le_of_ble_eq_true rfl) dJ5_append_c97b9_54
abbrev RM_J4_append_bf812 : Room := { frames := 2, cells := 0, slots := 0, locals := 49 }
abbrev MC_J4_append_bf812 : Nat := 0
abbrev MS_J4_append_bf812 : Nat := 0
abbrev wf_J4_append_bf812 (K : Nat → ClassId) (aB : Nat) (aBv : Nat) (bC : Int32) (bM : Int32) (v : Int32 × (Nat → Int32)) : va_W := [(aB, .inr (6, [.ref aBv, .int bC, .int bM, .int v.1])), (aBv, .inl (K 7, 16, .inl v.2))]
set_option maxHeartbeats 4000000 in
set_option maxRecDepth 100000 in
theorem c_J4_append_bf812 (l : Launch) (D : va_G) (K : Nat → ClassId) (aB : Nat) (aBv : Nat) (bC : Int32) (bM : Int32) (bN : Int32) (bV : Nat → Int32) (p1 : Int32) (v : Int32 × (Nat → Int32)) (hF : f_J4_append_bf812 bC bN bV p1 = some v) (sz : Nat) :
    (Met l yJ4_append_bf812 wsJ4_append_bf812 RM_J4_append_bf812 (PC D (TYB K) [(aB, .inr (6, [.ref aBv, .int bC, .int bM, .int bN])), (aBv, .inl (K 7, 16, .inl bV))] [.ref aB, .int p1] sz) (QR D (TYB K) aB (wf_J4_append_bf812 K aB aBv bC bM) v (va_A [(aB, .inr (6, [.ref aBv, .int bC, .int bM, .int bN])), (aBv, .inl (K 7, 16, .inl bV))] sz)) MC_J4_append_bf812 MS_J4_append_bf812 (va_A [(aB, .inr (6, [.ref aBv, .int bC, .int bM, .int bN])), (aBv, .inl (K 7, 16, .inl bV))] sz)) := by
  refine pro (Qf := fun A => QR D (TYB K) aB (wf_J4_append_bf812 K aB aBv bC bM) v A) (cc := cJ4_append_bf812) (maxL := 2) (ret := (some (.object "java/lang/StringBuilder"))) (by decide +kernel) rfl (Nat.le_of_ble_eq_true rfl) ?_
  intro p e s m args below meth c hx hb hr hts hown hlocks hml hini hK A hA hE hP hD hS ls hl
  have hown : s.vm.findClass RJ4 = some m.cls := hown
  have hl : lv_has ls 2 [(0, .ref aB), (1, .int p1)] := hl
  rw [f_J4_append_bf812] at hF
  refine lv_aload_n hx hb dJ4_append_bf812_0 rfl (lv_at hl 0 rfl) ?_
  refine lv_iload_n hx hb dJ4_append_bf812_1 rfl (lv_at hl 1 rfl) ?_
  obtain ⟨v1, hv1, hF⟩ := oB hF
  refine call_r (wr := []) (wn := [(aB, .inr (6, [.ref aBv, .int bC, .int bM, .int v1.1])), (aBv, .inl (K 7, 16, .inl v1.2))]) (va_runSU (hK.1 6 _ rfl).2 (As := [.int p1]) (rest := []) ⟨hx, hb, hml, hown, hts⟩ (c_J5_append_c97b9 l D K aB aBv bC bM bN bV p1 v1 hv1 s.heap.size) (va_cwSU 1 hts gJ4_append_bf812_J5_append_c97b9_s53 rfl rfl rfl (by decide +kernel) ⟨(Nat.le_of_ble_eq_true rfl), (Nat.le_of_ble_eq_true rfl)⟩) (prV hE hK hP hD hS hA [0, 1] rfl rfl 6 0 rfl rfl rfl) rfl rfl hl.1 rfl (lv_room (Nat.le_of_ble_eq_true rfl)) dJ4_append_bf812_2 ⟨(Nat.le_of_ble_eq_true rfl), (Nat.le_of_ble_eq_true rfl)⟩) hP hD hS hA [0, 1] [] [0, 1] rfl rfl rfl (by decide) rfl rfl (fun H locs hP hD hS => ?_)
  refine lv_pop hx hb dJ4_append_bf812_5 rfl ?_
  refine lv_aload_n hx hb dJ4_append_bf812_6 rfl (lv_at hl 0 rfl) ?_
  exact fin_r (u := (v1.1, v1.2)) hF hx hb hr hlocks hK hP hD hS (Nat.le_of_ble_eq_true rfl) (Nat.le_of_ble_eq_true rfl) dJ4_append_bf812_7
abbrev RM_J7_checkLength_df160 : Room := { frames := 0, cells := 0, slots := 0, locals := 0 }
abbrev MC_J7_checkLength_df160 : Nat := 0
abbrev MS_J7_checkLength_df160 : Nat := 0
abbrev wf_J7_checkLength_df160 (K : Nat → ClassId)   (v : Unit) : va_W := []
set_option maxHeartbeats 4000000 in
set_option maxRecDepth 100000 in
theorem c_J7_checkLength_df160 (l : Launch) (D : va_G) (K : Nat → ClassId) (tys : List (ClassId × FieldType))   (p1 : Int32) (p2 : Int32) (v : Unit) (hF : f_J7_checkLength_df160 p1 p2 = some v) (sz : Nat) :
    (Met l yJ7_checkLength_df160 wsJ7_checkLength_df160 RM_J7_checkLength_df160 (PC D tys [] [.int p1, .int p2] sz) (QV D tys (wf_J7_checkLength_df160 K) v (va_A [] sz)) MC_J7_checkLength_df160 MS_J7_checkLength_df160 (va_A [] sz)) := by
  refine pro (Qf := fun A => QV D tys (wf_J7_checkLength_df160 K) v A) (cc := cJ7_checkLength_df160) (maxL := 2) (ret := none) (by decide +kernel) rfl (Nat.le_of_ble_eq_true rfl) ?_
  intro p e s m args below meth c hx hb hr hts hown hlocks hml hini hK A hA hE hP hD hS ls hl
  have hown : s.vm.findClass RJ7 = some m.cls := hown
  have hl : lv_has ls 2 [(0, .int p1), (1, .int p2)] := hl
  rw [f_J7_checkLength_df160] at hF
  refine lv_iload_n hx hb dJ7_checkLength_df160_0 rfl (lv_at hl 1 rfl) ?_
  refine lv_iload_n hx hb dJ7_checkLength_df160_1 rfl (lv_at hl 0 rfl) ?_
  refine lv_icmp_ge (tgt := 37) hx hb dJ7_checkLength_df160_2 (by decide) (fun c1 => ?_) (fun c1 => ?_)
  · have hF := oT c1 hF
    exact fin_v (u := ()) hF hx hb hr hlocks hK hP hD hS (Nat.le_of_ble_eq_true rfl) (Nat.le_of_ble_eq_true rfl) dJ7_checkLength_df160_37
  · have hF := oF c1 hF
    exact nomatch hF
abbrev RM_J5_getValue_6d5f1 : Room := { frames := 0, cells := 0, slots := 0, locals := 0 }
abbrev MC_J5_getValue_6d5f1 : Nat := 0
abbrev MS_J5_getValue_6d5f1 : Nat := 0
abbrev wf_J5_getValue_6d5f1 (K : Nat → ClassId) (aB : Nat) (aBv : Nat) (bC : Int32) (bM : Int32) (bN : Int32) (v : Unit) : va_W := [(aB, .inr (6, [.ref aBv, .int bC, .int bM, .int bN]))]
set_option maxHeartbeats 4000000 in
set_option maxRecDepth 100000 in
theorem c_J5_getValue_6d5f1 (l : Launch) (D : va_G) (K : Nat → ClassId) (aB : Nat) (aBv : Nat) (bC : Int32) (bM : Int32) (bN : Int32)  (v : Unit) (hF : f_J5_getValue_6d5f1  = some v) (sz : Nat) :
    (Met l yJ5_getValue_6d5f1 wsJ5_getValue_6d5f1 RM_J5_getValue_6d5f1 (PC D (TYB K) [(aB, .inr (6, [.ref aBv, .int bC, .int bM, .int bN]))] [.ref aB] sz) (QR D (TYB K) aBv (wf_J5_getValue_6d5f1 K aB aBv bC bM bN) v (va_A [(aB, .inr (6, [.ref aBv, .int bC, .int bM, .int bN]))] sz)) MC_J5_getValue_6d5f1 MS_J5_getValue_6d5f1 (va_A [(aB, .inr (6, [.ref aBv, .int bC, .int bM, .int bN]))] sz)) := by
  refine pro (Qf := fun A => QR D (TYB K) aBv (wf_J5_getValue_6d5f1 K aB aBv bC bM bN) v A) (cc := cJ5_getValue_6d5f1) (maxL := 1) (ret := (some (.array .byte))) (by decide +kernel) rfl (Nat.le_of_ble_eq_true rfl) ?_
  intro p e s m args below meth c hx hb hr hts hown hlocks hml hini hK A hA hE hP hD hS ls hl
  have hown : s.vm.findClass RJ5 = some m.cls := hown
  have hl : lv_has ls 1 [(0, .ref aB)] := hl
  rw [f_J5_getValue_6d5f1] at hF
  refine lv_aload_n hx hb dJ5_getValue_6d5f1_0 rfl (lv_at hl 0 rfl) ?_
  refine va_get (D := D) (ci := 6) (v := .ref aBv) (C := RJ4) (T := TJ4) (N := 4) hx hb hts (fun _ h => List.mem_cons_of_mem _ (List.mem_append_right _ h)) hown hK hP 0 rfl rfl 0 (by decide) (hts (.fieldLink RJ5 15 "java/lang/AbstractStringBuilder" "value" "[B") (List.mem_of_getElem? (i := 1) rfl)) (fun _ h9 => h9) rfl dJ5_getValue_6d5f1_1 ?_
  exact fin_r (u := ()) hF hx hb hr hlocks hK hP hD hS (Nat.le_of_ble_eq_true rfl) (Nat.le_of_ble_eq_true rfl) dJ5_getValue_6d5f1_4
abbrev RM_J5_length_8abf5 : Room := { frames := 0, cells := 0, slots := 0, locals := 0 }
abbrev MC_J5_length_8abf5 : Nat := 0
abbrev MS_J5_length_8abf5 : Nat := 0
abbrev wf_J5_length_8abf5 (K : Nat → ClassId) (aB : Nat) (aBv : Nat) (bC : Int32) (bM : Int32) (bN : Int32) (v : Int32 × Unit) : va_W := [(aB, .inr (6, [.ref aBv, .int bC, .int bM, .int bN]))]
set_option maxHeartbeats 4000000 in
set_option maxRecDepth 100000 in
theorem c_J5_length_8abf5 (l : Launch) (D : va_G) (K : Nat → ClassId) (aB : Nat) (aBv : Nat) (bC : Int32) (bM : Int32) (bN : Int32)  (v : Int32 × Unit) (hF : f_J5_length_8abf5 bN = some v) (sz : Nat) :
    (Met l yJ5_length_8abf5 wsJ5_length_8abf5 RM_J5_length_8abf5 (PC D (TYB K) [(aB, .inr (6, [.ref aBv, .int bC, .int bM, .int bN]))] [.ref aB] sz) (QI D (TYB K) (wf_J5_length_8abf5 K aB aBv bC bM bN) v (va_A [(aB, .inr (6, [.ref aBv, .int bC, .int bM, .int bN]))] sz)) MC_J5_length_8abf5 MS_J5_length_8abf5 (va_A [(aB, .inr (6, [.ref aBv, .int bC, .int bM, .int bN]))] sz)) := by
  refine pro (Qf := fun A => QI D (TYB K) (wf_J5_length_8abf5 K aB aBv bC bM bN) v A) (cc := cJ5_length_8abf5) (maxL := 1) (ret := (some .int)) (by decide +kernel) rfl (Nat.le_of_ble_eq_true rfl) ?_
  intro p e s m args below meth c hx hb hr hts hown hlocks hml hini hK A hA hE hP hD hS ls hl
  have hown : s.vm.findClass RJ5 = some m.cls := hown
  have hl : lv_has ls 1 [(0, .ref aB)] := hl
  rw [f_J5_length_8abf5] at hF
  refine lv_aload_n hx hb dJ5_length_8abf5_0 rfl (lv_at hl 0 rfl) ?_
  refine va_get (D := D) (ci := 6) (v := .int bN) (C := RJ4) (T := TJ4) (N := 4) hx hb hts (fun _ h => List.mem_cons_of_mem _ (List.mem_append_right _ h)) hown hK hP 0 rfl rfl 3 (by decide) (hts (.fieldLink RJ5 79 "java/lang/AbstractStringBuilder" "count" "I") (List.mem_of_getElem? (i := 1) rfl)) (fun _ h9 => h9) rfl dJ5_length_8abf5_1 ?_
  exact fin_i (u := (bN, ())) hF hx hb hr hlocks hK hP hD hS (Nat.le_of_ble_eq_true rfl) (Nat.le_of_ble_eq_true rfl) dJ5_length_8abf5_4
abbrev RM_J4_length_8abf5 : Room := { frames := 1, cells := 0, slots := 0, locals := 20 }
abbrev MC_J4_length_8abf5 : Nat := 0
abbrev MS_J4_length_8abf5 : Nat := 0
abbrev wf_J4_length_8abf5 (K : Nat → ClassId) (aB : Nat) (aBv : Nat) (bC : Int32) (bM : Int32) (bN : Int32) (v : Int32 × Unit) : va_W := [(aB, .inr (6, [.ref aBv, .int bC, .int bM, .int bN]))]
set_option maxHeartbeats 4000000 in
set_option maxRecDepth 100000 in
theorem c_J4_length_8abf5 (l : Launch) (D : va_G) (K : Nat → ClassId) (aB : Nat) (aBv : Nat) (bC : Int32) (bM : Int32) (bN : Int32)  (v : Int32 × Unit) (hF : f_J4_length_8abf5 bN = some v) (sz : Nat) :
    (Met l yJ4_length_8abf5 wsJ4_length_8abf5 RM_J4_length_8abf5 (PC D (TYB K) [(aB, .inr (6, [.ref aBv, .int bC, .int bM, .int bN]))] [.ref aB] sz) (QI D (TYB K) (wf_J4_length_8abf5 K aB aBv bC bM bN) v (va_A [(aB, .inr (6, [.ref aBv, .int bC, .int bM, .int bN]))] sz)) MC_J4_length_8abf5 MS_J4_length_8abf5 (va_A [(aB, .inr (6, [.ref aBv, .int bC, .int bM, .int bN]))] sz)) := by
  refine pro (Qf := fun A => QI D (TYB K) (wf_J4_length_8abf5 K aB aBv bC bM bN) v A) (cc := cJ4_length_8abf5) (maxL := 1) (ret := (some .int)) (by decide +kernel) rfl (Nat.le_of_ble_eq_true rfl) ?_
  intro p e s m args below meth c hx hb hr hts hown hlocks hml hini hK A hA hE hP hD hS ls hl
  have hown : s.vm.findClass RJ4 = some m.cls := hown
  have hl : lv_has ls 1 [(0, .ref aB)] := hl
  rw [f_J4_length_8abf5] at hF
  refine lv_aload_n hx hb dJ4_length_8abf5_0 rfl (lv_at hl 0 rfl) ?_
  obtain ⟨v1, hv1, hF⟩ := oB hF
  refine call_i (wr := []) (wn := [(aB, .inr (6, [.ref aBv, .int bC, .int bM, .int bN]))]) (va_runSU (hK.1 6 _ rfl).2 (As := []) (rest := []) ⟨hx, hb, hml, hown, hts⟩ (c_J5_length_8abf5 l D K aB aBv bC bM bN v1 hv1 s.heap.size) (va_cwSU 0 hts gJ4_length_8abf5_J5_length_8abf5_s343 rfl rfl rfl (by decide +kernel) ⟨(Nat.le_of_ble_eq_true rfl), (Nat.le_of_ble_eq_true rfl)⟩) (prV hE hK hP hD hS hA [0] rfl rfl 6 0 rfl rfl rfl) rfl rfl hl.1 rfl (lv_room (Nat.le_of_ble_eq_true rfl)) dJ4_length_8abf5_1 ⟨(Nat.le_of_ble_eq_true rfl), (Nat.le_of_ble_eq_true rfl)⟩) hP hD hS hA [0] [] [0] rfl rfl rfl (by decide) rfl rfl (fun H locs hP hD hS => ?_)
  exact fin_i (u := (v1.1, ())) hF hx hb hr hlocks hK hP hD hS (Nat.le_of_ble_eq_true rfl) (Nat.le_of_ble_eq_true rfl) dJ4_length_8abf5_4
