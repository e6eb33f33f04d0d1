section CALLH
variable {p : Program} {l : Launch} {e : Env} {R : Room} {s : State} {m : MethodId} {args : Array Value} {below : List Frame} {meth : Method} {c : Code} {H : Heap} {locs : List Loc} {cells slots mc ms : Nat} {Q : State → Prop}
variable {pc : Nat} {ls : Array Slot} {D : va_G} {tys : List (ClassId × FieldType)} {A : Nat → Prop} {ws wc wr wn : va_W} {st0 rest : List Value} {a : Array Value}
theorem callH_d {S : Type} {wf : UInt64 × S → va_W} {v : UInt64 × S} (hr : vx_Run p l e R s m args below meth c H locs cells slots mc ms (F0 m pc ls st0) rest (QD D tys wf v (va_A wc H.size) a) XN (va_A wc H.size)) (hP : va_P D vwC7 ws H) (hD : va_D A ws) (hS : va_S A s.heap H locs) (hA : ∀ q, s.heap.size ≤ q → A q) (isC isR pi : List Nat) (hC : isC.map (fun i => ws[i]?) = wc.map some) (hR : isR.map (fun i => ws[i]?) = wr.map some) (hn : va_nd isR = true) (hdis : ∀ i ∈ isR, i ∉ isC) (hpi : pi.map (fun i => (wr ++ wf v)[i]?) = wn.map some) (hnp : va_nd pi = true)
    (kk : ∀ (H1 : Heap) (locs1 : List Loc), va_P D vwC7 wn H1 → va_D A wn → va_S A s.heap H1 locs1 → W p l e R s m args below meth c H1 locs1 (cells + mc) (slots + ms) Q (F0 m (pc + 3) ls (.double v.1 :: rest))) : W p l e R s m args below meth c H locs cells slots Q (F0 m pc ls st0) :=
  vx_calld hr hS (fun q _ h => va_free hD hS hA isC hC q h) (va_free hD hS hA isC hC) (fun q _ h => h.elim) (fun E ce q9 u t H1 locs1 ht hvm hw hB hz hk hS1 hce hv hcl => hw.elim) (fun r u t H1 locs1 ht hvm hw hB hz hk hS1 => by
    obtain ⟨hP1, hK1, hD1⟩ := hB
    rw [ht] at hP1
    obtain ⟨h1, h2⟩ := mix hP hD hS hA isC isR pi hC hR hn hdis hpi hnp hk hP1 hD1
    rw [show r = v.1 from hw]
    exact kk H1 locs1 h1 h2 hS1)
theorem callH_f {S : Type} {wf : UInt32 × S → va_W} {v : UInt32 × S} (hr : vx_Run p l e R s m args below meth c H locs cells slots mc ms (F0 m pc ls st0) rest (QF D tys wf v (va_A wc H.size) a) XN (va_A wc H.size)) (hP : va_P D vwC7 ws H) (hD : va_D A ws) (hS : va_S A s.heap H locs) (hA : ∀ q, s.heap.size ≤ q → A q) (isC isR pi : List Nat) (hC : isC.map (fun i => ws[i]?) = wc.map some) (hR : isR.map (fun i => ws[i]?) = wr.map some) (hn : va_nd isR = true) (hdis : ∀ i ∈ isR, i ∉ isC) (hpi : pi.map (fun i => (wr ++ wf v)[i]?) = wn.map some) (hnp : va_nd pi = true)
    (kk : ∀ (H1 : Heap) (locs1 : List Loc), va_P D vwC7 wn H1 → va_D A wn → va_S A s.heap H1 locs1 → W p l e R s m args below meth c H1 locs1 (cells + mc) (slots + ms) Q (F0 m (pc + 3) ls (.float v.1 :: rest))) : W p l e R s m args below meth c H locs cells slots Q (F0 m pc ls st0) :=
  vx_callf hr hS (fun q _ h => va_free hD hS hA isC hC q h) (va_free hD hS hA isC hC) (fun q _ h => h.elim) (fun E ce q9 u t H1 locs1 ht hvm hw hB hz hk hS1 hce hv hcl => hw.elim) (fun r u t H1 locs1 ht hvm hw hB hz hk hS1 => by
    obtain ⟨hP1, hK1, hD1⟩ := hB
    rw [ht] at hP1
    obtain ⟨h1, h2⟩ := mix hP hD hS hA isC isR pi hC hR hn hdis hpi hnp hk hP1 hD1
    rw [show r = v.1 from hw]
    exact kk H1 locs1 h1 h2 hS1)
theorem lv_room10 {st : List Value} (h : (st.map fun v => v.category).sum ≤ 10) : 2 * (F0 m pc ls rest).monitorRoom + (st.map fun v => v.category).sum ≤ 10 := by
  show 2 * 0 + _ ≤ 10
  omega
/-- as vx_runSX, with ten words below the arguments -/
theorem vx_runS10 {y : MethodName} {bytes cc : ByteArray} {maxL nL n index : Nat} {ret : Option FieldType} {hh : List (Nat × Nat × Nat × Nat)} {ws : List Cond} {rm : Room} {Pc : Array Value → State → Prop} {Qc : Array Value → State → Outcome → State → Prop} {XC : String → State → State → Prop} {free : Addr → Prop} {Ts : List Cond} {own : String} {As : List Value} {g : JFrame}
    (S : CallFix p m c cc nL s args Ts own) (hM : vx_Met l y ws rm Pc Qc XC mc ms free) (cw : vx_CSW R s args own index y bytes maxL ret hh ws rm mc ms n) (hp : PreS s H Pc As)
    (hg : g.method = m) (hn : As.length = n) (hsize : g.locals.size = nL) (hstack : g.stack = As.reverse ++ rest) (hW : 10 + (maxL + 11) + rm.locals ≤ R.locals ∧ 2 * g.monitorRoom + (rest.map fun v => v.category).sum ≤ 10) (hdg : decode cc g.pc = .ok (.invokestatic index, 3)) (hf : cells + mc ≤ R.cells ∧ slots + ms ≤ R.slots) :
    vx_Run p l e R s m args below meth c H locs cells slots mc ms g rest (Qc As.toArray) XC free := by
  obtain ⟨⟨hrc, hrs, hfr, -, hws, hcw⟩, hcode, hini, hy, hlen, hl, hstt⟩ := cw
  have hK : vx_Back l R p e below s args y 3 10 (PreOf R mc ms Pc) (PostOf Qc mc ms free) (vx_Post XC mc ms free) := vx_backW (hh := hh) (bytes := bytes) (maxL := maxL) (ret := ret) hM hp.1 hrc hrs hfr hW.1 hws hcw (fun a' U hW => word_at hW (Or.inl (by first | rfl | simp [Cond.onTables, Cond.keeps, Cond.steady])) hini)
  obtain ⟨hx, hb, hml, ho, -⟩ := S
  intro T hT X
  rcases vx_callSX X hx (hh := hh) (bytes := bytes) (maxL := maxL) (ret := ret) ho hl hstt hini hcode hy hK hg (hsize.trans hml.symm) (argsL := As) (rest := rest) (fun sig h => hn.trans (hlen sig h)) hstack hW.2 (by rw [hb]; exact hdg)
    (fun vm₁ hW₁ => ⟨hf.1, hf.2, hp.2 (T.setVm vm₁) hT hW₁⟩) with ⟨v, vm₁, ⟨U', l2, c2, s2⟩, hW₁, X', ⟨g', mk, t, L, e1, e2, hq, h1, hL, h2, h3⟩, st⟩ | ⟨q, vm₁, ⟨U', l2, c2, s2⟩, hW₁, X', ⟨g', mk, t, L, E, ce, e1, e2, hq, hce, hcv, hcl, h1, hL, h2, h3⟩, st⟩
  · dsimp only [Pt.U, Pt.locs, Pt.cells, Pt.slots] at X' e1 e2 h1 h2 h3 st
    subst h1; subst h2; subst h3
    exact Or.inl ⟨v, (T.setVm vm₁).calling g' mk As.toArray, t, U', L, hT, X', hL, e1, e2, hq, st⟩
  · dsimp only [Pt.U, Pt.locs, Pt.cells, Pt.slots] at X' e1 e2 h1 h2 h3 st hcl
    subst h1; subst h2; subst h3
    exact Or.inr ⟨q, (T.setVm vm₁).calling g' mk As.toArray, t, U', L, E, ce, hT, X', hL, e1, e2, hq, hce, hcv, vx_cls hW₁ hcl, st⟩
end CALLH

abbrev RM_L_asks : Room := { frames := 9, cells := 501, slots := 3006, locals := 180 }
abbrev MC_L_asks : Nat := 501
abbrev MS_L_asks : Nat := 3006
abbrev wf_L_asks (K : Nat → ClassId) (aX : Nat) (aC : Nat) (aCr : Nat) (aR : Nat) (aH : Nat) (aHr : Nat) (aT : Nat) (aTc : Nat) (aTp : Nat) (aL : Nat) (aLc : Nat) (aS : Nat) (xS : Int32) (xF : Int32) (xR : Int32) (xD : Int32) (xC : Int32) (row : Nat → Int32) (kN : Int32) (kK : Int32) (tL : Int32) (tS : Int32) (tQ : Int32) (tF : Int32) (v : Int64 × Int32 × (Nat → Int32)) : va_W := [(aX, .inr (5, [.ref aC, .ref aR, .ref aH, .ref aT, .ref aL, .ref aS, .int xS, .int xF, .int xR, .int xD, .int xC])), (aC, .inr (0, [.ref aCr])), (aCr, .inl (K 0, 55, .inl row)), (aH, .inr (2, [.ref aHr, .int kN, .int kK])), (aT, .inr (1, [.ref aTc, .ref aTp, .int tL, .int tS, .int tQ, .int tF])), (aL, .inr (3, [.ref aLc, .int v.2.1])), (aLc, .inl (K 4, 32, .inl v.2.2))]
set_option maxHeartbeats 4000000 in
set_option maxRecDepth 100000 in
theorem c_L_asks (l : Launch) (hfl : l.stackTraces = false) (D : va_G) (K : Nat → ClassId) (aX : Nat) (aC : Nat) (aCr : Nat) (aR : Nat) (aH : Nat) (aHr : Nat) (aT : Nat) (aTc : Nat) (aTp : Nat) (aL : Nat) (aLc : Nat) (aS : Nat) (xS : Int32) (xF : Int32) (xR : Int32) (xD : Int32) (xC : Int32) (row : Nat → Int32) (kN : Int32) (kK : Int32) (tL : Int32) (tS : Int32) (tQ : Int32) (tF : Int32) (lL : Int32) (lC : Nat → Int32)  (v : Int64 × Int32 × (Nat → Int32)) (hF : f_L_asks row kK tL lL lC = some v) (sz : Nat) :
    (Met l yL_asks wsL_asks RM_L_asks (PC D (TY K) [(aX, .inr (5, [.ref aC, .ref aR, .ref aH, .ref aT, .ref aL, .ref aS, .int xS, .int xF, .int xR, .int xD, .int xC])), (aC, .inr (0, [.ref aCr])), (aCr, .inl (K 0, 55, .inl row)), (aH, .inr (2, [.ref aHr, .int kN, .int kK])), (aT, .inr (1, [.ref aTc, .ref aTp, .int tL, .int tS, .int tQ, .int tF])), (aL, .inr (3, [.ref aLc, .int lL])), (aLc, .inl (K 4, 32, .inl lC))] [.ref aX] sz) (QL D (TY K) (wf_L_asks K aX aC aCr aR aH aHr aT aTc aTp aL aLc aS xS xF xR xD xC row kN kK tL tS tQ tF) v (va_A [(aX, .inr (5, [.ref aC, .ref aR, .ref aH, .ref aT, .ref aL, .ref aS, .int xS, .int xF, .int xR, .int xD, .int xC])), (aC, .inr (0, [.ref aCr])), (aCr, .inl (K 0, 55, .inl row)), (aH, .inr (2, [.ref aHr, .int kN, .int kK])), (aT, .inr (1, [.ref aTc, .ref aTp, .int tL, .int tS, .int tQ, .int tF])), (aL, .inr (3, [.ref aLc, .int lL])), (aLc, .inl (K 4, 32, .inl lC))] sz)) MC_L_asks MS_L_asks (va_A [(aX, .inr (5, [.ref aC, .ref aR, .ref aH, .ref aT, .ref aL, .ref aS, .int xS, .int xF, .int xR, .int xD, .int xC])), (aC, .inr (0, [.ref aCr])), (aCr, .inl (K 0, 55, .inl row)), (aH, .inr (2, [.ref aHr, .int kN, .int kK])), (aT, .inr (1, [.ref aTc, .ref aTp, .int tL, .int tS, .int tQ, .int tF])), (aL, .inr (3, [.ref aLc, .int lL])), (aLc, .inl (K 4, 32, .inl lC))] sz)) := by
  refine pro (Qf := fun A => QL D (TY K) (wf_L_asks K aX aC aCr aR aH aHr aT aTc aTp aL aLc aS xS xF xR xD xC row kN kK tL tS tQ tF) v A) (cc := cL_asks) (maxL := 6) (ret := (some .long)) (by decide +kernel) rfl (Nat.le_of_ble_eq_true rfl) ?_
  intro p e s m args below meth c hx hb hr hts hown hlocks hml hini hK A hA hE hP hD hS ls hl
  have hown : s.vm.findClass RL = some m.cls := hown
  have hl : lv_has ls 6 [(0, .ref aX)] := hl
  have loop_255 : ∀ (y255_3 : Int32) (lL_255 : Int32) (lC_255 : Nat → Int32) (n : Nat) (y255_1 : Int64) (y255_4 : Int32), f_L_asks_L255 row y255_3 lL_255 lC_255 n y255_1 y255_4 = some v → ∀ (k9 j9 : Nat), k9 + 1 * n = 500 → j9 + 6 * n = 3000 → ∀ (H : Heap) (locs : List Loc), va_P D vwC7 [(aX, .inr (5, [.ref aC, .ref aR, .ref aH, .ref aT, .ref aL, .ref aS, .int xS, .int xF, .int xR, .int xD, .int xC])), (aC, .inr (0, [.ref aCr])), (aCr, .inl (K 0, 55, .inl row)), (aH, .inr (2, [.ref aHr, .int kN, .int kK])), (aT, .inr (1, [.ref aTc, .ref aTp, .int tL, .int tS, .int tQ, .int tF])), (aL, .inr (3, [.ref aLc, .int lL_255])), (aLc, .inl (K 4, 32, .inl lC_255))] H → va_D A [(aX, .inr (5, [.ref aC, .ref aR, .ref aH, .ref aT, .ref aL, .ref aS, .int xS, .int xF, .int xR, .int xD, .int xC])), (aC, .inr (0, [.ref aCr])), (aCr, .inl (K 0, 55, .inl row)), (aH, .inr (2, [.ref aHr, .int kN, .int kK])), (aT, .inr (1, [.ref aTc, .ref aTp, .int tL, .int tS, .int tQ, .int tF])), (aL, .inr (3, [.ref aLc, .int lL_255])), (aLc, .inl (K 4, 32, .inl lC_255))] → va_S A s.heap H locs → ∀ ls : Array Slot, lv_has ls 6 [(0, .ref aX), (1, .long y255_1), (3, .int y255_3), (4, .int y255_4)] → W p l e RM_L_asks s m args below meth c H locs k9 j9 (MQ below (QL D (TY K) (wf_L_asks K aX aC aCr aR aH aHr aT aTc aTp aL aLc aS xS xF xR xD xC row kN kK tL tS tQ tF) v A) args s MC_L_asks MS_L_asks A) (F0 m 255 ls []) := by
    intro y255_3 lL_255 lC_255 n
    induction n with
    | zero =>
      intro y255_1 y255_4 hF
      exact nomatch hF
    | succ n ih =>
      intro y255_1 y255_4 hF k9 j9 hk9 hj9 H locs hP hD hS ls hl
      rw [f_L_asks_L255.eq_2] at hF
      refine lv_iload hx hb dL_asks_255 (lv_at hl 3 rfl) ?_
      refine lv_iload_n hx hb dL_asks_257 rfl (lv_at hl 2 rfl) ?_
      refine lv_icmp_ge (tgt := 281) hx hb dL_asks_258 (by decide) (fun c10 => ?_) (fun c10 => ?_)
      · have hF := oT c10 hF
        refine W.widen (k := 500) (n := 3000) (by show k9 ≤ _; omega) (by show j9 ≤ _; omega) ?_
        refine lv_ldc2 (v := (31 : Int64)) hx hb hown (hts (.constantLong RL 174 (31)) (List.mem_of_getElem? (i := 1) rfl)) dL_asks_281 ?_
        refine lv_ldc2 (v := (31 : Int64)) hx hb hown (hts (.constantLong RL 174 (31)) (List.mem_of_getElem? (i := 1) rfl)) dL_asks_284 ?_
        refine lv_ldc2 (v := (31 : Int64)) hx hb hown (hts (.constantLong RL 174 (31)) (List.mem_of_getElem? (i := 1) rfl)) dL_asks_287 ?_
        refine lv_ldc2 (v := (31 : Int64)) hx hb hown (hts (.constantLong RL 174 (31)) (List.mem_of_getElem? (i := 1) rfl)) dL_asks_290 ?_
        refine lv_lload_n hx hb dL_asks_293 rfl (lv_at hl 1 rfl) ?_
        refine lv_lmul hx hb dL_asks_294 ?_
        refine lv_aload_n hx hb dL_asks_295 rfl (lv_at hl 0 rfl) ?_
        obtain ⟨v11, hv11, hF⟩ := oB hF
        refine call_i (wr := [(aH, .inr (2, [.ref aHr, .int kN, .int kK])), (aT, .inr (1, [.ref aTc, .ref aTp, .int tL, .int tS, .int tQ, .int tF])), (aL, .inr (3, [.ref aLc, .int lL_255])), (aLc, .inl (K 4, 32, .inl lC_255))]) (wn := [(aX, .inr (5, [.ref aC, .ref aR, .ref aH, .ref aT, .ref aL, .ref aS, .int xS, .int xF, .int xR, .int xD, .int xC])), (aC, .inr (0, [.ref aCr])), (aCr, .inl (K 0, 55, .inl row)), (aH, .inr (2, [.ref aHr, .int kN, .int kK])), (aT, .inr (1, [.ref aTc, .ref aTp, .int tL, .int tS, .int tQ, .int tF])), (aL, .inr (3, [.ref aLc, .int lL_255])), (aLc, .inl (K 4, 32, .inl lC_255))]) (va_runV (As := []) (rest := [.long ((31 : Int64) * y255_1), .long (31 : Int64), .long (31 : Int64), .long (31 : Int64)]) ⟨hx, hb, hml, hown, hts⟩ (c_X7_winners l D K aX aC aCr aR aH aT aL aS xS xF xR xD xC row v11 hv11 H.size) (cwV 0 hts gL_asks_X7_winners rfl rfl rfl (by decide +kernel) ⟨(Nat.le_of_ble_eq_true rfl), (Nat.le_of_ble_eq_true rfl)⟩) (prV hE hK hP hD hS hA [0, 1, 2] rfl rfl 5 0 rfl rfl rfl) rfl rfl hl.1 rfl (lv_room (Nat.le_of_ble_eq_true rfl)) dL_asks_296 ⟨(Nat.le_of_ble_eq_true rfl), (Nat.le_of_ble_eq_true rfl)⟩) hP hD hS hA [0, 1, 2] [3, 4, 5, 6] [4, 5, 6, 0, 1, 2, 3] rfl rfl rfl (by decide) rfl rfl (fun H locs hP hD hS => ?_)
        refine lv_i2l (v := v11.1.toInt64) hx hb dL_asks_299 rfl ?_
        refine lv_ladd hx hb dL_asks_300 ?_
        refine lv_lmul hx hb dL_asks_301 ?_
        refine lv_aload_n hx hb dL_asks_302 rfl (lv_at hl 0 rfl) ?_
        obtain ⟨v12, hv12, hF⟩ := oB hF
        refine call_i (wr := [(aH, .inr (2, [.ref aHr, .int kN, .int kK])), (aT, .inr (1, [.ref aTc, .ref aTp, .int tL, .int tS, .int tQ, .int tF])), (aL, .inr (3, [.ref aLc, .int lL_255])), (aLc, .inl (K 4, 32, .inl lC_255))]) (wn := [(aX, .inr (5, [.ref aC, .ref aR, .ref aH, .ref aT, .ref aL, .ref aS, .int xS, .int xF, .int xR, .int xD, .int xC])), (aC, .inr (0, [.ref aCr])), (aCr, .inl (K 0, 55, .inl row)), (aH, .inr (2, [.ref aHr, .int kN, .int kK])), (aT, .inr (1, [.ref aTc, .ref aTp, .int tL, .int tS, .int tQ, .int tF])), (aL, .inr (3, [.ref aLc, .int lL_255])), (aLc, .inl (K 4, 32, .inl lC_255))]) (va_runV (As := []) (rest := [.long ((31 : Int64) * (((31 : Int64) * y255_1) + v11.1.toInt64)), .long (31 : Int64), .long (31 : Int64)]) ⟨hx, hb, hml, hown, hts⟩ (c_X7_winnersAgain l D K aX aC aCr aR aH aT aL aS xS xF xR xD xC row v12 hv12 H.size) (cwV 0 hts gL_asks_X7_winnersAgain rfl rfl rfl (by decide +kernel) ⟨(Nat.le_of_ble_eq_true rfl), (Nat.le_of_ble_eq_true rfl)⟩) (prV hE hK hP hD hS hA [0, 1, 2] rfl rfl 5 0 rfl rfl rfl) rfl rfl hl.1 rfl (lv_room (Nat.le_of_ble_eq_true rfl)) dL_asks_303 ⟨(Nat.le_of_ble_eq_true rfl), (Nat.le_of_ble_eq_true rfl)⟩) hP hD hS hA [0, 1, 2] [3, 4, 5, 6] [4, 5, 6, 0, 1, 2, 3] rfl rfl rfl (by decide) rfl rfl (fun H locs hP hD hS => ?_)
        refine lv_i2l (v := v12.1.toInt64) hx hb dL_asks_306 rfl ?_
        refine lv_ladd hx hb dL_asks_307 ?_
        refine lv_lmul hx hb dL_asks_308 ?_
        refine lv_aload_n hx hb dL_asks_309 rfl (lv_at hl 0 rfl) ?_
        obtain ⟨v13, hv13, hF⟩ := oB hF
        refine call_i (wr := [(aH, .inr (2, [.ref aHr, .int kN, .int kK])), (aT, .inr (1, [.ref aTc, .ref aTp, .int tL, .int tS, .int tQ, .int tF])), (aL, .inr (3, [.ref aLc, .int lL_255])), (aLc, .inl (K 4, 32, .inl lC_255))]) (wn := [(aX, .inr (5, [.ref aC, .ref aR, .ref aH, .ref aT, .ref aL, .ref aS, .int xS, .int xF, .int xR, .int xD, .int xC])), (aC, .inr (0, [.ref aCr])), (aCr, .inl (K 0, 55, .inl row)), (aH, .inr (2, [.ref aHr, .int kN, .int kK])), (aT, .inr (1, [.ref aTc, .ref aTp, .int tL, .int tS, .int tQ, .int tF])), (aL, .inr (3, [.ref aLc, .int lL_255])), (aLc, .inl (K 4, 32, .inl lC_255))]) (va_runV (As := []) (rest := [.long ((31 : Int64) * (((31 : Int64) * (((31 : Int64) * y255_1) + v11.1.toInt64)) + v12.1.toInt64)), .long (31 : Int64)]) ⟨hx, hb, hml, hown, hts⟩ (c_X7_share l D K aX aC aCr aR aH aT aL aS xS xF xR xD xC row v13 hv13 H.size) (cwV 0 hts gL_asks_X7_share rfl rfl rfl (by decide +kernel) ⟨(Nat.le_of_ble_eq_true rfl), (Nat.le_of_ble_eq_true rfl)⟩) (prV hE hK hP hD hS hA [0, 1, 2] rfl rfl 5 0 rfl rfl rfl) rfl rfl hl.1 rfl (lv_room (Nat.le_of_ble_eq_true rfl)) dL_asks_310 ⟨(Nat.le_of_ble_eq_true rfl), (Nat.le_of_ble_eq_true rfl)⟩) hP hD hS hA [0, 1, 2] [3, 4, 5, 6] [4, 5, 6, 0, 1, 2, 3] rfl rfl rfl (by decide) rfl rfl (fun H locs hP hD hS => ?_)
        refine lv_i2l (v := v13.1.toInt64) hx hb dL_asks_313 rfl ?_
        refine lv_ladd hx hb dL_asks_314 ?_
        refine lv_lmul hx hb dL_asks_315 ?_
        refine lv_aload_n hx hb dL_asks_316 rfl (lv_at hl 0 rfl) ?_
        refine lv_bipush (v := (17 : Int32)) hx hb dL_asks_317 (by decide) ?_
        obtain ⟨v14, hv14, hF⟩ := oB hF
        refine callH_i (wr := [(aH, .inr (2, [.ref aHr, .int kN, .int kK])), (aT, .inr (1, [.ref aTc, .ref aTp, .int tL, .int tS, .int tQ, .int tF])), (aL, .inr (3, [.ref aLc, .int lL_255])), (aLc, .inl (K 4, 32, .inl lC_255))]) (wn := [(aX, .inr (5, [.ref aC, .ref aR, .ref aH, .ref aT, .ref aL, .ref aS, .int xS, .int xF, .int xR, .int xD, .int xC])), (aC, .inr (0, [.ref aCr])), (aCr, .inl (K 0, 55, .inl row)), (aH, .inr (2, [.ref aHr, .int kN, .int kK])), (aT, .inr (1, [.ref aTc, .ref aTp, .int tL, .int tS, .int tQ, .int tF])), (aL, .inr (3, [.ref aLc, .int lL_255])), (aLc, .inl (K 4, 32, .inl lC_255))]) (vx_runSX (As := [.ref aX, .int (17 : Int32)]) (rest := [.long ((31 : Int64) * (((31 : Int64) * (((31 : Int64) * (((31 : Int64) * y255_1) + v11.1.toInt64)) + v12.1.toInt64)) + v13.1.toInt64))]) ⟨hx, hb, hml, hown, hts⟩ (c_L_wouldWin l hfl D K aX aC aCr aR aH aT aL aS xS xF xR xD xC row (17 : Int32) v14 hv14 H.size) (vx_cwSW 2 hts gL_asks_L_wouldWin rfl rfl rfl (by decide +kernel) ⟨(Nat.le_of_ble_eq_true rfl), (Nat.le_of_ble_eq_true rfl)⟩) (prS hE hK hP hD hS hA [0, 1, 2] rfl rfl) rfl rfl hl.1 rfl (lv_room (Nat.le_of_ble_eq_true rfl)) dL_asks_319 ⟨(Nat.le_of_ble_eq_true rfl), (Nat.le_of_ble_eq_true rfl)⟩) hP hD hS hA [0, 1, 2] [3, 4, 5, 6] [4, 5, 6, 0, 1, 2, 3] rfl rfl rfl (by decide) rfl rfl (fun H locs hP hD hS => ?_)
        refine lv_i2l (v := v14.1.toInt64) hx hb dL_asks_322 rfl ?_
        refine lv_ladd hx hb dL_asks_323 ?_
        exact fin_l (u := (((31 : Int64) * (((31 : Int64) * (((31 : Int64) * (((31 : Int64) * y255_1) + v11.1.toInt64)) + v12.1.toInt64)) + v13.1.toInt64)) + v14.1.toInt64, (lL_255, lC_255))) hF hx hb hr hlocks hK hP hD hS (Nat.le_of_ble_eq_true rfl) (Nat.le_of_ble_eq_true rfl) dL_asks_324
      · have hF := oF c10 hF
        refine lv_ldc2 (v := (31 : Int64)) hx hb hown (hts (.constantLong RL 174 (31)) (List.mem_of_getElem? (i := 1) rfl)) dL_asks_261 ?_
        refine lv_lload_n hx hb dL_asks_264 rfl (lv_at hl 1 rfl) ?_
        refine lv_lmul hx hb dL_asks_265 ?_
        refine lv_aload_n hx hb dL_asks_266 rfl (lv_at hl 0 rfl) ?_
        refine lv_iload hx hb dL_asks_267 (lv_at hl 3 rfl) ?_
        obtain ⟨v15, hv15, hF⟩ := oB hF
        refine callH_i (wr := [(aC, .inr (0, [.ref aCr])), (aCr, .inl (K 0, 55, .inl row)), (aH, .inr (2, [.ref aHr, .int kN, .int kK])), (aT, .inr (1, [.ref aTc, .ref aTp, .int tL, .int tS, .int tQ, .int tF]))]) (wn := [(aX, .inr (5, [.ref aC, .ref aR, .ref aH, .ref aT, .ref aL, .ref aS, .int xS, .int xF, .int xR, .int xD, .int xC])), (aC, .inr (0, [.ref aCr])), (aCr, .inl (K 0, 55, .inl row)), (aH, .inr (2, [.ref aHr, .int kN, .int kK])), (aT, .inr (1, [.ref aTc, .ref aTp, .int tL, .int tS, .int tQ, .int tF])), (aL, .inr (3, [.ref aLc, .int lL_255])), (aLc, .inl (K 4, 32, .inl lC_255))]) (vx_runSX (As := [.ref aX, .int y255_4]) (rest := [.long ((31 : Int64) * y255_1)]) ⟨hx, hb, hml, hown, hts⟩ (c_L_character l hfl D K aX aC aR aH aT aL aLc aS xS xF xR xD xC lL_255 lC_255 y255_4 v15 hv15 H.size) (vx_cwSW 2 hts gL_asks_L_character rfl rfl rfl (by decide +kernel) ⟨(Nat.le_of_ble_eq_true rfl), (Nat.le_of_ble_eq_true rfl)⟩) (prS hE hK hP hD hS hA [0, 5, 6] rfl rfl) rfl rfl hl.1 rfl (lv_room (Nat.le_of_ble_eq_true rfl)) dL_asks_269 ⟨by show (k9 + 1) ≤ 501; omega, by show (j9 + 6) ≤ 3006; omega⟩) hP hD hS hA [0, 5, 6] [1, 2, 3, 4] [4, 0, 1, 2, 3, 5, 6] rfl rfl rfl (by decide) rfl rfl (fun H locs hP hD hS => ?_)
        refine lv_i2l (v := v15.1.toInt64) hx hb dL_asks_272 rfl ?_
        refine lv_ladd hx hb dL_asks_273 ?_
        refine lv_lstore_n (lv' := [(1, .long (((31 : Int64) * y255_1) + v15.1.toInt64)), (0, .ref aX), (3, .int y255_3), (4, .int y255_4)]) hx hb dL_asks_274 rfl hl (by decide) rfl (fun ls hl => ?_)
        refine lv_iinc (v := y255_4 + (1 : Int32)) (lv' := [(4, .int (y255_4 + (1 : Int32))), (1, .long (((31 : Int64) * y255_1) + v15.1.toInt64)), (0, .ref aX), (3, .int y255_3)]) hx hb dL_asks_275 hl (k := 3) rfl (by first | rfl | decide) (by decide) rfl (fun ls hl => ?_)
        refine lv_goto (tgt := 255) hx hb dL_asks_278 (by decide) ?_
        refine W.widen (k := k9 + 1) (n := j9 + 6) (by show (k9 + 1) ≤ _; omega) (by show (j9 + 6) ≤ _; omega) ?_
        exact ih (((31 : Int64) * y255_1) + v15.1.toInt64) (y255_4 + (1 : Int32)) hF (k9 + 1) (j9 + 6) (by omega) (by omega) _ _ hP hD hS _ (lv_sub hl [2, 1, 3, 0] rfl)
  have loop_89 : ∀ (y89_3 : Int32) (lL_89 : Int32) (lC_89 : Nat → Int32) (u : Int64 × Int32) (n : Nat) (y89_1 : Int64) (y89_4 : Int32), f_L_asks_L89 row y89_3 n y89_1 y89_4 = some u → ∀ (k9 j9 K9 J9 : Nat), k9 + 2 * n = K9 → j9 + 12 * n = J9 → K9 ≤ 501 → J9 ≤ 3006 → (∀ (H : Heap) (locs : List Loc), va_P D vwC7 [(aX, .inr (5, [.ref aC, .ref aR, .ref aH, .ref aT, .ref aL, .ref aS, .int xS, .int xF, .int xR, .int xD, .int xC])), (aC, .inr (0, [.ref aCr])), (aCr, .inl (K 0, 55, .inl row)), (aH, .inr (2, [.ref aHr, .int kN, .int kK])), (aT, .inr (1, [.ref aTc, .ref aTp, .int tL, .int tS, .int tQ, .int tF])), (aL, .inr (3, [.ref aLc, .int lL_89])), (aLc, .inl (K 4, 32, .inl lC_89))] H → va_D A [(aX, .inr (5, [.ref aC, .ref aR, .ref aH, .ref aT, .ref aL, .ref aS, .int xS, .int xF, .int xR, .int xD, .int xC])), (aC, .inr (0, [.ref aCr])), (aCr, .inl (K 0, 55, .inl row)), (aH, .inr (2, [.ref aHr, .int kN, .int kK])), (aT, .inr (1, [.ref aTc, .ref aTp, .int tL, .int tS, .int tQ, .int tF])), (aL, .inr (3, [.ref aLc, .int lL_89])), (aLc, .inl (K 4, 32, .inl lC_89))] → va_S A s.heap H locs → ∀ ls : Array Slot, lv_has ls 6 [(0, .ref aX), (1, .long u.1), (3, .int y89_3), (4, .int u.2)] → W p l e RM_L_asks s m args below meth c H locs K9 J9 (MQ below (QL D (TY K) (wf_L_asks K aX aC aCr aR aH aHr aT aTc aTp aL aLc aS xS xF xR xD xC row kN kK tL tS tQ tF) v A) args s MC_L_asks MS_L_asks A) (F0 m 117 ls [])) → ∀ (H : Heap) (locs : List Loc), va_P D vwC7 [(aX, .inr (5, [.ref aC, .ref aR, .ref aH, .ref aT, .ref aL, .ref aS, .int xS, .int xF, .int xR, .int xD, .int xC])), (aC, .inr (0, [.ref aCr])), (aCr, .inl (K 0, 55, .inl row)), (aH, .inr (2, [.ref aHr, .int kN, .int kK])), (aT, .inr (1, [.ref aTc, .ref aTp, .int tL, .int tS, .int tQ, .int tF])), (aL, .inr (3, [.ref aLc, .int lL_89])), (aLc, .inl (K 4, 32, .inl lC_89))] H → va_D A [(aX, .inr (5, [.ref aC, .ref aR, .ref aH, .ref aT, .ref aL, .ref aS, .int xS, .int xF, .int xR, .int xD, .int xC])), (aC, .inr (0, [.ref aCr])), (aCr, .inl (K 0, 55, .inl row)), (aH, .inr (2, [.ref aHr, .int kN, .int kK])), (aT, .inr (1, [.ref aTc, .ref aTp, .int tL, .int tS, .int tQ, .int tF])), (aL, .inr (3, [.ref aLc, .int lL_89])), (aLc, .inl (K 4, 32, .inl lC_89))] → va_S A s.heap H locs → ∀ ls : Array Slot, lv_has ls 6 [(0, .ref aX), (1, .long y89_1), (3, .int y89_3), (4, .int y89_4)] → W p l e RM_L_asks s m args below meth c H locs k9 j9 (MQ below (QL D (TY K) (wf_L_asks K aX aC aCr aR aH aHr aT aTc aTp aL aLc aS xS xF xR xD xC row kN kK tL tS tQ tF) v A) args s MC_L_asks MS_L_asks A) (F0 m 89 ls []) := by
    intro y89_3 lL_89 lC_89 u n
    induction n with
    | zero =>
      intro y89_1 y89_4 hF
      exact nomatch hF
    | succ n ih =>
      intro y89_1 y89_4 hF k9 j9 K9 J9 hk9 hj9 hK9 hJ9 kx H locs hP hD hS ls hl
      rw [f_L_asks_L89.eq_2] at hF
      refine lv_iload hx hb dL_asks_89 (lv_at hl 3 rfl) ?_
      refine lv_bipush (v := (7 : Int32)) hx hb dL_asks_91 (by decide) ?_
      refine lv_icmp_ge (tgt := 117) hx hb dL_asks_93 (by decide) (fun c16 => ?_) (fun c16 => ?_)
      · have hF := oT c16 hF
        cases hF
        refine W.widen (k := K9) (n := J9) (by show k9 ≤ _; omega) (by show j9 ≤ _; omega) ?_
        exact kx _ _ hP hD hS _ (lv_sub hl [0, 1, 2, 3] rfl)
      · have hF := oF c16 hF
        refine lv_ldc2 (v := (31 : Int64)) hx hb hown (hts (.constantLong RL 174 (31)) (List.mem_of_getElem? (i := 1) rfl)) dL_asks_96 ?_
        refine lv_lload_n hx hb dL_asks_99 rfl (lv_at hl 1 rfl) ?_
        refine lv_lmul hx hb dL_asks_100 ?_
        refine lv_aload_n hx hb dL_asks_101 rfl (lv_at hl 0 rfl) ?_
        refine lv_iload_n hx hb dL_asks_102 rfl (lv_at hl 2 rfl) ?_
        refine lv_iload hx hb dL_asks_103 (lv_at hl 3 rfl) ?_
        obtain ⟨v17, hv17, hF⟩ := oB hF
        refine callH_i (wr := [(aH, .inr (2, [.ref aHr, .int kN, .int kK])), (aT, .inr (1, [.ref aTc, .ref aTp, .int tL, .int tS, .int tQ, .int tF])), (aL, .inr (3, [.ref aLc, .int lL_89])), (aLc, .inl (K 4, 32, .inl lC_89))]) (wn := [(aX, .inr (5, [.ref aC, .ref aR, .ref aH, .ref aT, .ref aL, .ref aS, .int xS, .int xF, .int xR, .int xD, .int xC])), (aC, .inr (0, [.ref aCr])), (aCr, .inl (K 0, 55, .inl row)), (aH, .inr (2, [.ref aHr, .int kN, .int kK])), (aT, .inr (1, [.ref aTc, .ref aTp, .int tL, .int tS, .int tQ, .int tF])), (aL, .inr (3, [.ref aLc, .int lL_89])), (aLc, .inl (K 4, 32, .inl lC_89))]) (vx_runSX (As := [.ref aX, .int y89_3, .int y89_4]) (rest := [.long ((31 : Int64) * y89_1)]) ⟨hx, hb, hml, hown, hts⟩ (c_L_of l hfl D K aX aC aCr aR aH aT aL aS xS xF xR xD xC row y89_3 y89_4 v17 hv17 H.size) (vx_cwSW 3 hts gL_asks_L_of rfl rfl rfl (by decide +kernel) ⟨(Nat.le_of_ble_eq_true rfl), (Nat.le_of_ble_eq_true rfl)⟩) (prS hE hK hP hD hS hA [0, 1, 2] rfl rfl) rfl rfl hl.1 rfl (lv_room (Nat.le_of_ble_eq_true rfl)) dL_asks_105 ⟨by show (k9 + 2) ≤ 501; omega, by show (j9 + 12) ≤ 3006; omega⟩) hP hD hS hA [0, 1, 2] [3, 4, 5, 6] [4, 5, 6, 0, 1, 2, 3] rfl rfl rfl (by decide) rfl rfl (fun H locs hP hD hS => ?_)
        refine lv_i2l (v := v17.1.toInt64) hx hb dL_asks_108 rfl ?_
        refine lv_ladd hx hb dL_asks_109 ?_
        refine lv_lstore_n (lv' := [(1, .long (((31 : Int64) * y89_1) + v17.1.toInt64)), (0, .ref aX), (3, .int y89_3), (4, .int y89_4)]) hx hb dL_asks_110 rfl hl (by decide) rfl (fun ls hl => ?_)
        refine lv_iinc (v := y89_4 + (1 : Int32)) (lv' := [(4, .int (y89_4 + (1 : Int32))), (1, .long (((31 : Int64) * y89_1) + v17.1.toInt64)), (0, .ref aX), (3, .int y89_3)]) hx hb dL_asks_111 hl (k := 3) rfl (by first | rfl | decide) (by decide) rfl (fun ls hl => ?_)
        refine lv_goto (tgt := 89) hx hb dL_asks_114 (by decide) ?_
        refine W.widen (k := k9 + 2) (n := j9 + 12) (by show (k9 + 2) ≤ _; omega) (by show (j9 + 12) ≤ _; omega) ?_
        exact ih (((31 : Int64) * y89_1) + v17.1.toInt64) (y89_4 + (1 : Int32)) hF (k9 + 2) (j9 + 12) K9 J9 (by omega) (by omega) hK9 hJ9 kx _ _ hP hD hS _ (lv_sub hl [2, 1, 3, 0] rfl)
  have loop_177 : ∀ (y177_3 : Int32) (lL_177 : Int32) (lC_177 : Nat → Int32) (u : Int64 × Int32) (n : Nat) (y177_1 : Int64) (y177_4 : Int32), f_L_asks_L177 row y177_3 n y177_1 y177_4 = some u → ∀ (k9 j9 K9 J9 : Nat), k9 + 1 * n = K9 → j9 + 6 * n = J9 → K9 ≤ 501 → J9 ≤ 3006 → (∀ (H : Heap) (locs : List Loc), va_P D vwC7 [(aX, .inr (5, [.ref aC, .ref aR, .ref aH, .ref aT, .ref aL, .ref aS, .int xS, .int xF, .int xR, .int xD, .int xC])), (aC, .inr (0, [.ref aCr])), (aCr, .inl (K 0, 55, .inl row)), (aH, .inr (2, [.ref aHr, .int kN, .int kK])), (aT, .inr (1, [.ref aTc, .ref aTp, .int tL, .int tS, .int tQ, .int tF])), (aL, .inr (3, [.ref aLc, .int lL_177])), (aLc, .inl (K 4, 32, .inl lC_177))] H → va_D A [(aX, .inr (5, [.ref aC, .ref aR, .ref aH, .ref aT, .ref aL, .ref aS, .int xS, .int xF, .int xR, .int xD, .int xC])), (aC, .inr (0, [.ref aCr])), (aCr, .inl (K 0, 55, .inl row)), (aH, .inr (2, [.ref aHr, .int kN, .int kK])), (aT, .inr (1, [.ref aTc, .ref aTp, .int tL, .int tS, .int tQ, .int tF])), (aL, .inr (3, [.ref aLc, .int lL_177])), (aLc, .inl (K 4, 32, .inl lC_177))] → va_S A s.heap H locs → ∀ ls : Array Slot, lv_has ls 6 [(0, .ref aX), (1, .long u.1), (3, .int y177_3), (4, .int u.2)] → W p l e RM_L_asks s m args below meth c H locs K9 J9 (MQ below (QL D (TY K) (wf_L_asks K aX aC aCr aR aH aHr aT aTc aTp aL aLc aS xS xF xR xD xC row kN kK tL tS tQ tF) v A) args s MC_L_asks MS_L_asks A) (F0 m 204 ls [])) → ∀ (H : Heap) (locs : List Loc), va_P D vwC7 [(aX, .inr (5, [.ref aC, .ref aR, .ref aH, .ref aT, .ref aL, .ref aS, .int xS, .int xF, .int xR, .int xD, .int xC])), (aC, .inr (0, [.ref aCr])), (aCr, .inl (K 0, 55, .inl row)), (aH, .inr (2, [.ref aHr, .int kN, .int kK])), (aT, .inr (1, [.ref aTc, .ref aTp, .int tL, .int tS, .int tQ, .int tF])), (aL, .inr (3, [.ref aLc, .int lL_177])), (aLc, .inl (K 4, 32, .inl lC_177))] H → va_D A [(aX, .inr (5, [.ref aC, .ref aR, .ref aH, .ref aT, .ref aL, .ref aS, .int xS, .int xF, .int xR, .int xD, .int xC])), (aC, .inr (0, [.ref aCr])), (aCr, .inl (K 0, 55, .inl row)), (aH, .inr (2, [.ref aHr, .int kN, .int kK])), (aT, .inr (1, [.ref aTc, .ref aTp, .int tL, .int tS, .int tQ, .int tF])), (aL, .inr (3, [.ref aLc, .int lL_177])), (aLc, .inl (K 4, 32, .inl lC_177))] → va_S A s.heap H locs → ∀ ls : Array Slot, lv_has ls 6 [(0, .ref aX), (1, .long y177_1), (3, .int y177_3), (4, .int y177_4)] → W p l e RM_L_asks s m args below meth c H locs k9 j9 (MQ below (QL D (TY K) (wf_L_asks K aX aC aCr aR aH aHr aT aTc aTp aL aLc aS xS xF xR xD xC row kN kK tL tS tQ tF) v A) args s MC_L_asks MS_L_asks A) (F0 m 177 ls []) := by
    intro y177_3 lL_177 lC_177 u n
    induction n with
    | zero =>
      intro y177_1 y177_4 hF
      exact nomatch hF
    | succ n ih =>
      intro y177_1 y177_4 hF k9 j9 K9 J9 hk9 hj9 hK9 hJ9 kx H locs hP hD hS ls hl
      rw [f_L_asks_L177.eq_2] at hF
      refine lv_iload hx hb dL_asks_177 (lv_at hl 3 rfl) ?_
      refine lv_iconst (v := (4 : Int32)) hx hb dL_asks_179 (by decide) ?_
      refine lv_icmp_ge (tgt := 204) hx hb dL_asks_180 (by decide) (fun c24 => ?_) (fun c24 => ?_)
      · have hF := oT c24 hF
        cases hF
        refine W.widen (k := K9) (n := J9) (by show k9 ≤ _; omega) (by show j9 ≤ _; omega) ?_
        exact kx _ _ hP hD hS _ (lv_sub hl [0, 1, 2, 3] rfl)
      · have hF := oF c24 hF
        refine lv_ldc2 (v := (31 : Int64)) hx hb hown (hts (.constantLong RL 174 (31)) (List.mem_of_getElem? (i := 1) rfl)) dL_asks_183 ?_
        refine lv_lload_n hx hb dL_asks_186 rfl (lv_at hl 1 rfl) ?_
        refine lv_lmul hx hb dL_asks_187 ?_
        refine lv_aload_n hx hb dL_asks_188 rfl (lv_at hl 0 rfl) ?_
        refine lv_iload hx hb dL_asks_189 (lv_at hl 3 rfl) ?_
        refine lv_iload_n hx hb dL_asks_191 rfl (lv_at hl 2 rfl) ?_
        obtain ⟨v25, hv25, hF⟩ := oB hF
        refine callH_i (wr := [(aH, .inr (2, [.ref aHr, .int kN, .int kK])), (aT, .inr (1, [.ref aTc, .ref aTp, .int tL, .int tS, .int tQ, .int tF])), (aL, .inr (3, [.ref aLc, .int lL_177])), (aLc, .inl (K 4, 32, .inl lC_177))]) (wn := [(aX, .inr (5, [.ref aC, .ref aR, .ref aH, .ref aT, .ref aL, .ref aS, .int xS, .int xF, .int xR, .int xD, .int xC])), (aC, .inr (0, [.ref aCr])), (aCr, .inl (K 0, 55, .inl row)), (aH, .inr (2, [.ref aHr, .int kN, .int kK])), (aT, .inr (1, [.ref aTc, .ref aTp, .int tL, .int tS, .int tQ, .int tF])), (aL, .inr (3, [.ref aLc, .int lL_177])), (aLc, .inl (K 4, 32, .inl lC_177))]) (vx_runSX (As := [.ref aX, .int y177_4, .int y177_3]) (rest := [.long ((31 : Int64) * y177_1)]) ⟨hx, hb, hml, hown, hts⟩ (c_L_ranked l hfl D K aX aC aCr aR aH aT aL aS xS xF xR xD xC row y177_4 y177_3 v25 hv25 H.size) (vx_cwSW 3 hts gL_asks_L_ranked rfl rfl rfl (by decide +kernel) ⟨(Nat.le_of_ble_eq_true rfl), (Nat.le_of_ble_eq_true rfl)⟩) (prS hE hK hP hD hS hA [0, 1, 2] rfl rfl) rfl rfl hl.1 rfl (lv_room (Nat.le_of_ble_eq_true rfl)) dL_asks_192 ⟨by show (k9 + 1) ≤ 501; omega, by show (j9 + 6) ≤ 3006; omega⟩) hP hD hS hA [0, 1, 2] [3, 4, 5, 6] [4, 5, 6, 0, 1, 2, 3] rfl rfl rfl (by decide) rfl rfl (fun H locs hP hD hS => ?_)
        refine lv_i2l (v := v25.1.toInt64) hx hb dL_asks_195 rfl ?_
        refine lv_ladd hx hb dL_asks_196 ?_
        refine lv_lstore_n (lv' := [(1, .long (((31 : Int64) * y177_1) + v25.1.toInt64)), (0, .ref aX), (3, .int y177_3), (4, .int y177_4)]) hx hb dL_asks_197 rfl hl (by decide) rfl (fun ls hl => ?_)
        refine lv_iinc (v := y177_4 + (1 : Int32)) (lv' := [(4, .int (y177_4 + (1 : Int32))), (1, .long (((31 : Int64) * y177_1) + v25.1.toInt64)), (0, .ref aX), (3, .int y177_3)]) hx hb dL_asks_198 hl (k := 3) rfl (by first | rfl | decide) (by decide) rfl (fun ls hl => ?_)
        refine lv_goto (tgt := 177) hx hb dL_asks_201 (by decide) ?_
        refine W.widen (k := k9 + 1) (n := j9 + 6) (by show (k9 + 1) ≤ _; omega) (by show (j9 + 6) ≤ _; omega) ?_
        exact ih (((31 : Int64) * y177_1) + v25.1.toInt64) (y177_4 + (1 : Int32)) hF (k9 + 1) (j9 + 6) K9 J9 (by omega) (by omega) hK9 hJ9 kx _ _ hP hD hS _ (lv_sub hl [2, 1, 3, 0] rfl)
  have loop_214 : ∀ (y214_3 : Int32) (y214_4 : Int32) (lL_214 : Int32) (lC_214 : Nat → Int32) (u : Int64 × Int32) (n : Nat) (y214_1 : Int64) (y214_5 : Int32), f_L_asks_L214 y214_4 lL_214 lC_214 n y214_1 y214_5 = some u → ∀ (k9 j9 K9 J9 : Nat), k9 + 1 * n = K9 → j9 + 6 * n = J9 → K9 ≤ 501 → J9 ≤ 3006 → (∀ (H : Heap) (locs : List Loc), va_P D vwC7 [(aX, .inr (5, [.ref aC, .ref aR, .ref aH, .ref aT, .ref aL, .ref aS, .int xS, .int xF, .int xR, .int xD, .int xC])), (aC, .inr (0, [.ref aCr])), (aCr, .inl (K 0, 55, .inl row)), (aH, .inr (2, [.ref aHr, .int kN, .int kK])), (aT, .inr (1, [.ref aTc, .ref aTp, .int tL, .int tS, .int tQ, .int tF])), (aL, .inr (3, [.ref aLc, .int lL_214])), (aLc, .inl (K 4, 32, .inl lC_214))] H → va_D A [(aX, .inr (5, [.ref aC, .ref aR, .ref aH, .ref aT, .ref aL, .ref aS, .int xS, .int xF, .int xR, .int xD, .int xC])), (aC, .inr (0, [.ref aCr])), (aCr, .inl (K 0, 55, .inl row)), (aH, .inr (2, [.ref aHr, .int kN, .int kK])), (aT, .inr (1, [.ref aTc, .ref aTp, .int tL, .int tS, .int tQ, .int tF])), (aL, .inr (3, [.ref aLc, .int lL_214])), (aLc, .inl (K 4, 32, .inl lC_214))] → va_S A s.heap H locs → ∀ ls : Array Slot, lv_has ls 6 [(0, .ref aX), (1, .long u.1), (3, .int y214_3), (4, .int y214_4), (5, .int u.2)] → W p l e RM_L_asks s m args below meth c H locs K9 J9 (MQ below (QL D (TY K) (wf_L_asks K aX aC aCr aR aH aHr aT aTc aTp aL aLc aS xS xF xR xD xC row kN kK tL tS tQ tF) v A) args s MC_L_asks MS_L_asks A) (F0 m 241 ls [])) → ∀ (H : Heap) (locs : List Loc), va_P D vwC7 [(aX, .inr (5, [.ref aC, .ref aR, .ref aH, .ref aT, .ref aL, .ref aS, .int xS, .int xF, .int xR, .int xD, .int xC])), (aC, .inr (0, [.ref aCr])), (aCr, .inl (K 0, 55, .inl row)), (aH, .inr (2, [.ref aHr, .int kN, .int kK])), (aT, .inr (1, [.ref aTc, .ref aTp, .int tL, .int tS, .int tQ, .int tF])), (aL, .inr (3, [.ref aLc, .int lL_214])), (aLc, .inl (K 4, 32, .inl lC_214))] H → va_D A [(aX, .inr (5, [.ref aC, .ref aR, .ref aH, .ref aT, .ref aL, .ref aS, .int xS, .int xF, .int xR, .int xD, .int xC])), (aC, .inr (0, [.ref aCr])), (aCr, .inl (K 0, 55, .inl row)), (aH, .inr (2, [.ref aHr, .int kN, .int kK])), (aT, .inr (1, [.ref aTc, .ref aTp, .int tL, .int tS, .int tQ, .int tF])), (aL, .inr (3, [.ref aLc, .int lL_214])), (aLc, .inl (K 4, 32, .inl lC_214))] → va_S A s.heap H locs → ∀ ls : Array Slot, lv_has ls 6 [(0, .ref aX), (1, .long y214_1), (3, .int y214_3), (4, .int y214_4), (5, .int y214_5)] → W p l e RM_L_asks s m args below meth c H locs k9 j9 (MQ below (QL D (TY K) (wf_L_asks K aX aC aCr aR aH aHr aT aTc aTp aL aLc aS xS xF xR xD xC row kN kK tL tS tQ tF) v A) args s MC_L_asks MS_L_asks A) (F0 m 214 ls []) := by
    intro y214_3 y214_4 lL_214 lC_214 u n
    induction n with
    | zero =>
      intro y214_1 y214_5 hF
      exact nomatch hF
    | succ n ih =>
      intro y214_1 y214_5 hF k9 j9 K9 J9 hk9 hj9 hK9 hJ9 kx H locs hP hD hS ls hl
      rw [f_L_asks_L214.eq_2] at hF
      refine lv_iload hx hb dL_asks_214 (lv_at hl 4 rfl) ?_
      refine lv_iload hx hb dL_asks_216 (lv_at hl 3 rfl) ?_
      refine lv_icmp_ge (tgt := 241) hx hb dL_asks_218 (by decide) (fun c28 => ?_) (fun c28 => ?_)
      · have hF := oT c28 hF
        cases hF
        refine W.widen (k := K9) (n := J9) (by show k9 ≤ _; omega) (by show j9 ≤ _; omega) ?_
        exact kx _ _ hP hD hS _ (lv_sub hl [0, 1, 2, 3, 4] rfl)
      · have hF := oF c28 hF
        refine lv_ldc2 (v := (31 : Int64)) hx hb hown (hts (.constantLong RL 174 (31)) (List.mem_of_getElem? (i := 1) rfl)) dL_asks_221 ?_
        refine lv_lload_n hx hb dL_asks_224 rfl (lv_at hl 1 rfl) ?_
        refine lv_lmul hx hb dL_asks_225 ?_
        refine lv_aload_n hx hb dL_asks_226 rfl (lv_at hl 0 rfl) ?_
        refine lv_iload hx hb dL_asks_227 (lv_at hl 4 rfl) ?_
        obtain ⟨v29, hv29, hF⟩ := oB hF
        refine callH_i (wr := [(aC, .inr (0, [.ref aCr])), (aCr, .inl (K 0, 55, .inl row)), (aH, .inr (2, [.ref aHr, .int kN, .int kK])), (aT, .inr (1, [.ref aTc, .ref aTp, .int tL, .int tS, .int tQ, .int tF]))]) (wn := [(aX, .inr (5, [.ref aC, .ref aR, .ref aH, .ref aT, .ref aL, .ref aS, .int xS, .int xF, .int xR, .int xD, .int xC])), (aC, .inr (0, [.ref aCr])), (aCr, .inl (K 0, 55, .inl row)), (aH, .inr (2, [.ref aHr, .int kN, .int kK])), (aT, .inr (1, [.ref aTc, .ref aTp, .int tL, .int tS, .int tQ, .int tF])), (aL, .inr (3, [.ref aLc, .int lL_214])), (aLc, .inl (K 4, 32, .inl lC_214))]) (vx_runSX (As := [.ref aX, .int y214_5]) (rest := [.long ((31 : Int64) * y214_1)]) ⟨hx, hb, hml, hown, hts⟩ (c_L_character l hfl D K aX aC aR aH aT aL aLc aS xS xF xR xD xC lL_214 lC_214 y214_5 v29 hv29 H.size) (vx_cwSW 2 hts gL_asks_L_character rfl rfl rfl (by decide +kernel) ⟨(Nat.le_of_ble_eq_true rfl), (Nat.le_of_ble_eq_true rfl)⟩) (prS hE hK hP hD hS hA [0, 5, 6] rfl rfl) rfl rfl hl.1 rfl (lv_room (Nat.le_of_ble_eq_true rfl)) dL_asks_229 ⟨by show (k9 + 1) ≤ 501; omega, by show (j9 + 6) ≤ 3006; omega⟩) hP hD hS hA [0, 5, 6] [1, 2, 3, 4] [4, 0, 1, 2, 3, 5, 6] rfl rfl rfl (by decide) rfl rfl (fun H locs hP hD hS => ?_)
        refine lv_i2l (v := v29.1.toInt64) hx hb dL_asks_232 rfl ?_
        refine lv_ladd hx hb dL_asks_233 ?_
        refine lv_lstore_n (lv' := [(1, .long (((31 : Int64) * y214_1) + v29.1.toInt64)), (0, .ref aX), (3, .int y214_3), (4, .int y214_4), (5, .int y214_5)]) hx hb dL_asks_234 rfl hl (by decide) rfl (fun ls hl => ?_)
        refine lv_iinc (v := y214_5 + (1 : Int32)) (lv' := [(5, .int (y214_5 + (1 : Int32))), (1, .long (((31 : Int64) * y214_1) + v29.1.toInt64)), (0, .ref aX), (3, .int y214_3), (4, .int y214_4)]) hx hb dL_asks_235 hl (k := 4) rfl (by first | rfl | decide) (by decide) rfl (fun ls hl => ?_)
        refine lv_goto (tgt := 214) hx hb dL_asks_238 (by decide) ?_
        refine W.widen (k := k9 + 1) (n := j9 + 6) (by show (k9 + 1) ≤ _; omega) (by show (j9 + 6) ≤ _; omega) ?_
        exact ih (((31 : Int64) * y214_1) + v29.1.toInt64) (y214_5 + (1 : Int32)) hF (k9 + 1) (j9 + 6) K9 J9 (by omega) (by omega) hK9 hJ9 kx _ _ hP hD hS _ (lv_sub hl [2, 1, 3, 4, 0] rfl)
  have loop_77 : ∀  (n : Nat) (y77_1 : Int64) (y77_3 : Int32) (lL_77 : Int32) (lC_77 : Nat → Int32), f_L_asks_L77 row kK tL n y77_1 y77_3 lL_77 lC_77 = some v → ∀ (k9 j9 : Nat), k9 + 64 * n = 467 → j9 + 384 * n = 2802 → ∀ (H : Heap) (locs : List Loc), va_P D vwC7 [(aX, .inr (5, [.ref aC, .ref aR, .ref aH, .ref aT, .ref aL, .ref aS, .int xS, .int xF, .int xR, .int xD, .int xC])), (aC, .inr (0, [.ref aCr])), (aCr, .inl (K 0, 55, .inl row)), (aH, .inr (2, [.ref aHr, .int kN, .int kK])), (aT, .inr (1, [.ref aTc, .ref aTp, .int tL, .int tS, .int tQ, .int tF])), (aL, .inr (3, [.ref aLc, .int lL_77])), (aLc, .inl (K 4, 32, .inl lC_77))] H → va_D A [(aX, .inr (5, [.ref aC, .ref aR, .ref aH, .ref aT, .ref aL, .ref aS, .int xS, .int xF, .int xR, .int xD, .int xC])), (aC, .inr (0, [.ref aCr])), (aCr, .inl (K 0, 55, .inl row)), (aH, .inr (2, [.ref aHr, .int kN, .int kK])), (aT, .inr (1, [.ref aTc, .ref aTp, .int tL, .int tS, .int tQ, .int tF])), (aL, .inr (3, [.ref aLc, .int lL_77])), (aLc, .inl (K 4, 32, .inl lC_77))] → va_S A s.heap H locs → ∀ ls : Array Slot, lv_has ls 6 [(0, .ref aX), (1, .long y77_1), (3, .int y77_3)] → W p l e RM_L_asks s m args below meth c H locs k9 j9 (MQ below (QL D (TY K) (wf_L_asks K aX aC aCr aR aH aHr aT aTc aTp aL aLc aS xS xF xR xD xC row kN kK tL tS tQ tF) v A) args s MC_L_asks MS_L_asks A) (F0 m 77 ls []) := by
    intro  n
    induction n with
    | zero =>
      intro y77_1 y77_3 lL_77 lC_77 hF
      exact nomatch hF
    | succ n ih =>
      intro y77_1 y77_3 lL_77 lC_77 hF k9 j9 hk9 hj9 H locs hP hD hS ls hl
      rw [f_L_asks_L77.eq_2] at hF
      refine lv_iload_n hx hb dL_asks_77 rfl (lv_at hl 2 rfl) ?_
      refine lv_aload_n hx hb dL_asks_78 rfl (lv_at hl 0 rfl) ?_
      refine lv_iconst (v := (0 : Int32)) hx hb dL_asks_79 (by decide) ?_
      obtain ⟨v7, hv7, hF⟩ := oB hF
      refine callH_i (wr := [(aL, .inr (3, [.ref aLc, .int lL_77])), (aLc, .inl (K 4, 32, .inl lC_77))]) (wn := [(aX, .inr (5, [.ref aC, .ref aR, .ref aH, .ref aT, .ref aL, .ref aS, .int xS, .int xF, .int xR, .int xD, .int xC])), (aC, .inr (0, [.ref aCr])), (aCr, .inl (K 0, 55, .inl row)), (aH, .inr (2, [.ref aHr, .int kN, .int kK])), (aT, .inr (1, [.ref aTc, .ref aTp, .int tL, .int tS, .int tQ, .int tF])), (aL, .inr (3, [.ref aLc, .int lL_77])), (aLc, .inl (K 4, 32, .inl lC_77))]) (vx_runSX (As := [.ref aX, .int (0 : Int32)]) (rest := [.int y77_3]) ⟨hx, hb, hml, hown, hts⟩ (c_L_account l hfl D K aX aC aCr aR aH aHr aT aTc aTp aL aS xS xF xR xD xC row kN kK tL tS tQ tF (0 : Int32) v7 hv7 H.size) (vx_cwSW 2 hts gL_asks_L_account rfl rfl rfl (by decide +kernel) ⟨(Nat.le_of_ble_eq_true rfl), (Nat.le_of_ble_eq_true rfl)⟩) (prS hE hK hP hD hS hA [0, 1, 2, 3, 4] rfl rfl) rfl rfl hl.1 rfl (lv_room (Nat.le_of_ble_eq_true rfl)) dL_asks_80 ⟨by show (k9 + 1) ≤ 501; omega, by show (j9 + 6) ≤ 3006; omega⟩) hP hD hS hA [0, 1, 2, 3, 4] [5, 6] [2, 3, 4, 5, 6, 0, 1] rfl rfl rfl (by decide) rfl rfl (fun H locs hP hD hS => ?_)
      refine lv_icmp_ge (tgt := 247) hx hb dL_asks_83 (by decide) (fun c8 => ?_) (fun c8 => ?_)
      · have hF := oT c8 hF
        refine W.widen (k := 467) (n := 2802) (by show (k9 + 1) ≤ _; omega) (by show (j9 + 6) ≤ _; omega) ?_
        refine lv_aload_n hx hb dL_asks_247 rfl (lv_at hl 0 rfl) ?_
        obtain ⟨v9, hv9, hF⟩ := oB hF
        refine call_i (wr := [(aH, .inr (2, [.ref aHr, .int kN, .int kK])), (aT, .inr (1, [.ref aTc, .ref aTp, .int tL, .int tS, .int tQ, .int tF]))]) (wn := [(aX, .inr (5, [.ref aC, .ref aR, .ref aH, .ref aT, .ref aL, .ref aS, .int xS, .int xF, .int xR, .int xD, .int xC])), (aC, .inr (0, [.ref aCr])), (aCr, .inl (K 0, 55, .inl row)), (aH, .inr (2, [.ref aHr, .int kN, .int kK])), (aT, .inr (1, [.ref aTc, .ref aTp, .int tL, .int tS, .int tQ, .int tF])), (aL, .inr (3, [.ref aLc, .int v9.2.1])), (aLc, .inl (K 4, 32, .inl v9.2.2))]) (va_runV (As := []) (rest := []) ⟨hx, hb, hml, hown, hts⟩ (c_X7_board l D K aX aC aCr aR aH aT aL aLc aS xS xF xR xD xC row lL_77 lC_77 v9 hv9 H.size) (cwV 0 hts gL_asks_X7_board rfl rfl rfl (by decide +kernel) ⟨(Nat.le_of_ble_eq_true rfl), (Nat.le_of_ble_eq_true rfl)⟩) (prV hE hK hP hD hS hA [0, 1, 2, 5, 6] rfl rfl 5 0 rfl rfl rfl) rfl rfl hl.1 rfl (lv_room (Nat.le_of_ble_eq_true rfl)) dL_asks_248 ⟨(Nat.le_of_ble_eq_true rfl), (Nat.le_of_ble_eq_true rfl)⟩) hP hD hS hA [0, 1, 2, 5, 6] [3, 4] [2, 3, 4, 0, 1, 5, 6] rfl rfl rfl (by decide) rfl rfl (fun H locs hP hD hS => ?_)
        refine lv_istore_n (lv' := [(3, .int v9.1), (0, .ref aX), (1, .long y77_1)]) hx hb dL_asks_251 rfl hl (by decide) rfl (fun ls hl => ?_)
        refine lv_iconst (v := (0 : Int32)) hx hb dL_asks_252 (by decide) ?_
        refine lv_istore (lv' := [(4, .int (0 : Int32)), (3, .int v9.1), (0, .ref aX), (1, .long y77_1)]) hx hb dL_asks_253 hl (by decide) rfl (fun ls hl => ?_)
        exact loop_255 v9.1 v9.2.1 v9.2.2 33 y77_1 (0 : Int32) hF 467 2802 (by decide) (by decide) _ _ hP hD hS _ (lv_sub hl [2, 3, 1, 0] rfl)
      · have hF := oF c8 hF
        refine lv_iconst (v := (0 : Int32)) hx hb dL_asks_86 (by decide) ?_
        refine lv_istore (lv' := [(4, .int (0 : Int32)), (0, .ref aX), (1, .long y77_1), (3, .int y77_3)]) hx hb dL_asks_87 hl (by decide) rfl (fun ls hl => ?_)
        obtain ⟨u18, hu18, hF⟩ := oB hF
        refine loop_89 y77_3 lL_77 lC_77 u18 8 y77_1 (0 : Int32) hu18 (k9 + 1) (j9 + 6) ((k9 + 1) + 16) ((j9 + 6) + 96) (by omega) (by omega) (by omega) (by omega) (fun H locs hP hD hS ls hl => ?_) _ _ hP hD hS _ (lv_sub hl [1, 2, 3, 0] rfl)
        refine lv_ldc2 (v := (31 : Int64)) hx hb hown (hts (.constantLong RL 174 (31)) (List.mem_of_getElem? (i := 1) rfl)) dL_asks_117 ?_
        refine lv_ldc2 (v := (31 : Int64)) hx hb hown (hts (.constantLong RL 174 (31)) (List.mem_of_getElem? (i := 1) rfl)) dL_asks_120 ?_
        refine lv_ldc2 (v := (31 : Int64)) hx hb hown (hts (.constantLong RL 174 (31)) (List.mem_of_getElem? (i := 1) rfl)) dL_asks_123 ?_
        refine lv_ldc2 (v := (31 : Int64)) hx hb hown (hts (.constantLong RL 174 (31)) (List.mem_of_getElem? (i := 1) rfl)) dL_asks_126 ?_
        refine lv_ldc2 (v := (31 : Int64)) hx hb hown (hts (.constantLong RL 174 (31)) (List.mem_of_getElem? (i := 1) rfl)) dL_asks_129 ?_
        refine lv_lload_n hx hb dL_asks_132 rfl (lv_at hl 1 rfl) ?_
        refine lv_lmul hx hb dL_asks_133 ?_
        refine lv_aload_n hx hb dL_asks_134 rfl (lv_at hl 0 rfl) ?_
        refine lv_iload_n hx hb dL_asks_135 rfl (lv_at hl 2 rfl) ?_
        obtain ⟨v19, hv19, hF⟩ := oB hF
        refine callH_i (wr := [(aH, .inr (2, [.ref aHr, .int kN, .int kK])), (aT, .inr (1, [.ref aTc, .ref aTp, .int tL, .int tS, .int tQ, .int tF])), (aL, .inr (3, [.ref aLc, .int lL_77])), (aLc, .inl (K 4, 32, .inl lC_77))]) (wn := [(aX, .inr (5, [.ref aC, .ref aR, .ref aH, .ref aT, .ref aL, .ref aS, .int xS, .int xF, .int xR, .int xD, .int xC])), (aC, .inr (0, [.ref aCr])), (aCr, .inl (K 0, 55, .inl row)), (aH, .inr (2, [.ref aHr, .int kN, .int kK])), (aT, .inr (1, [.ref aTc, .ref aTp, .int tL, .int tS, .int tQ, .int tF])), (aL, .inr (3, [.ref aLc, .int lL_77])), (aLc, .inl (K 4, 32, .inl lC_77))]) (vx_runS10 (As := [.ref aX, .int y77_3]) (rest := [.long ((31 : Int64) * u18.1), .long (31 : Int64), .long (31 : Int64), .long (31 : Int64), .long (31 : Int64)]) ⟨hx, hb, hml, hown, hts⟩ (c_L_needle l hfl D K aX aC aCr aR aH aT aL aS xS xF xR xD xC row y77_3 v19 hv19 H.size) (vx_cwSW 2 hts gL_asks_L_needle rfl rfl rfl (by decide +kernel) ⟨(Nat.le_of_ble_eq_true rfl), (Nat.le_of_ble_eq_true rfl)⟩) (prS hE hK hP hD hS hA [0, 1, 2] rfl rfl) rfl rfl hl.1 rfl ⟨(Nat.le_of_ble_eq_true rfl), lv_room10 (Nat.le_of_ble_eq_true rfl)⟩ dL_asks_136 ⟨by show (((k9 + 1) + 16) + 1) ≤ 501; omega, by show (((j9 + 6) + 96) + 6) ≤ 3006; omega⟩) hP hD hS hA [0, 1, 2] [3, 4, 5, 6] [4, 5, 6, 0, 1, 2, 3] rfl rfl rfl (by decide) rfl rfl (fun H locs hP hD hS => ?_)
        refine lv_i2l (v := v19.1.toInt64) hx hb dL_asks_139 rfl ?_
        refine lv_ladd hx hb dL_asks_140 ?_
        refine lv_lmul hx hb dL_asks_141 ?_
        refine lv_aload_n hx hb dL_asks_142 rfl (lv_at hl 0 rfl) ?_
        refine lv_iload_n hx hb dL_asks_143 rfl (lv_at hl 2 rfl) ?_
        obtain ⟨v20, hv20, hF⟩ := oB hF
        refine callH_i (wr := [(aH, .inr (2, [.ref aHr, .int kN, .int kK])), (aT, .inr (1, [.ref aTc, .ref aTp, .int tL, .int tS, .int tQ, .int tF])), (aL, .inr (3, [.ref aLc, .int lL_77])), (aLc, .inl (K 4, 32, .inl lC_77))]) (wn := [(aX, .inr (5, [.ref aC, .ref aR, .ref aH, .ref aT, .ref aL, .ref aS, .int xS, .int xF, .int xR, .int xD, .int xC])), (aC, .inr (0, [.ref aCr])), (aCr, .inl (K 0, 55, .inl row)), (aH, .inr (2, [.ref aHr, .int kN, .int kK])), (aT, .inr (1, [.ref aTc, .ref aTp, .int tL, .int tS, .int tQ, .int tF])), (aL, .inr (3, [.ref aLc, .int lL_77])), (aLc, .inl (K 4, 32, .inl lC_77))]) (vx_runSX (As := [.ref aX, .int y77_3]) (rest := [.long ((31 : Int64) * (((31 : Int64) * u18.1) + v19.1.toInt64)), .long (31 : Int64), .long (31 : Int64), .long (31 : Int64)]) ⟨hx, hb, hml, hown, hts⟩ (c_L_off l hfl D K aX aC aCr aR aH aT aL aS xS xF xR xD xC row y77_3 v20 hv20 H.size) (vx_cwSW 2 hts gL_asks_L_off rfl rfl rfl (by decide +kernel) ⟨(Nat.le_of_ble_eq_true rfl), (Nat.le_of_ble_eq_true rfl)⟩) (prS hE hK hP hD hS hA [0, 1, 2] rfl rfl) rfl rfl hl.1 rfl (lv_room (Nat.le_of_ble_eq_true rfl)) dL_asks_144 ⟨by show ((((k9 + 1) + 16) + 1) + 2) ≤ 501; omega, by show ((((j9 + 6) + 96) + 6) + 12) ≤ 3006; omega⟩) hP hD hS hA [0, 1, 2] [3, 4, 5, 6] [4, 5, 6, 0, 1, 2, 3] rfl rfl rfl (by decide) rfl rfl (fun H locs hP hD hS => ?_)
        refine lv_i2l (v := v20.1.toInt64) hx hb dL_asks_147 rfl ?_
        refine lv_ladd hx hb dL_asks_148 ?_
        refine lv_lmul hx hb dL_asks_149 ?_
        refine lv_aload_n hx hb dL_asks_150 rfl (lv_at hl 0 rfl) ?_
        refine lv_iload_n hx hb dL_asks_151 rfl (lv_at hl 2 rfl) ?_
        obtain ⟨v21, hv21, hF⟩ := oB hF
        refine callH_i (wr := [(aH, .inr (2, [.ref aHr, .int kN, .int kK])), (aT, .inr (1, [.ref aTc, .ref aTp, .int tL, .int tS, .int tQ, .int tF])), (aL, .inr (3, [.ref aLc, .int lL_77])), (aLc, .inl (K 4, 32, .inl lC_77))]) (wn := [(aX, .inr (5, [.ref aC, .ref aR, .ref aH, .ref aT, .ref aL, .ref aS, .int xS, .int xF, .int xR, .int xD, .int xC])), (aC, .inr (0, [.ref aCr])), (aCr, .inl (K 0, 55, .inl row)), (aH, .inr (2, [.ref aHr, .int kN, .int kK])), (aT, .inr (1, [.ref aTc, .ref aTp, .int tL, .int tS, .int tQ, .int tF])), (aL, .inr (3, [.ref aLc, .int lL_77])), (aLc, .inl (K 4, 32, .inl lC_77))]) (vx_runSX (As := [.ref aX, .int y77_3]) (rest := [.long ((31 : Int64) * (((31 : Int64) * (((31 : Int64) * u18.1) + v19.1.toInt64)) + v20.1.toInt64)), .long (31 : Int64), .long (31 : Int64)]) ⟨hx, hb, hml, hown, hts⟩ (c_L_changeFor l hfl D K aX aC aCr aR aH aT aL aS xS xF xR xD xC row y77_3 v21 hv21 H.size) (vx_cwSW 2 hts gL_asks_L_changeFor rfl rfl rfl (by decide +kernel) ⟨(Nat.le_of_ble_eq_true rfl), (Nat.le_of_ble_eq_true rfl)⟩) (prS hE hK hP hD hS hA [0, 1, 2] rfl rfl) rfl rfl hl.1 rfl (lv_room (Nat.le_of_ble_eq_true rfl)) dL_asks_152 ⟨by show (((((k9 + 1) + 16) + 1) + 2) + 2) ≤ 501; omega, by show (((((j9 + 6) + 96) + 6) + 12) + 12) ≤ 3006; omega⟩) hP hD hS hA [0, 1, 2] [3, 4, 5, 6] [4, 5, 6, 0, 1, 2, 3] rfl rfl rfl (by decide) rfl rfl (fun H locs hP hD hS => ?_)
        refine lv_i2l (v := v21.1.toInt64) hx hb dL_asks_155 rfl ?_
        refine lv_ladd hx hb dL_asks_156 ?_
        refine lv_lmul hx hb dL_asks_157 ?_
        refine lv_aload_n hx hb dL_asks_158 rfl (lv_at hl 0 rfl) ?_
        refine lv_iload_n hx hb dL_asks_159 rfl (lv_at hl 2 rfl) ?_
        obtain ⟨v22, hv22, hF⟩ := oB hF
        refine callH_i (wr := [(aH, .inr (2, [.ref aHr, .int kN, .int kK])), (aT, .inr (1, [.ref aTc, .ref aTp, .int tL, .int tS, .int tQ, .int tF])), (aL, .inr (3, [.ref aLc, .int lL_77])), (aLc, .inl (K 4, 32, .inl lC_77))]) (wn := [(aX, .inr (5, [.ref aC, .ref aR, .ref aH, .ref aT, .ref aL, .ref aS, .int xS, .int xF, .int xR, .int xD, .int xC])), (aC, .inr (0, [.ref aCr])), (aCr, .inl (K 0, 55, .inl row)), (aH, .inr (2, [.ref aHr, .int kN, .int kK])), (aT, .inr (1, [.ref aTc, .ref aTp, .int tL, .int tS, .int tQ, .int tF])), (aL, .inr (3, [.ref aLc, .int lL_77])), (aLc, .inl (K 4, 32, .inl lC_77))]) (vx_runSX (As := [.ref aX, .int y77_3]) (rest := [.long ((31 : Int64) * (((31 : Int64) * (((31 : Int64) * (((31 : Int64) * u18.1) + v19.1.toInt64)) + v20.1.toInt64)) + v21.1.toInt64)), .long (31 : Int64)]) ⟨hx, hb, hml, hown, hts⟩ (c_L_bestGuess l hfl D K aX aC aCr aR aH aT aL aS xS xF xR xD xC row y77_3 v22 hv22 H.size) (vx_cwSW 2 hts gL_asks_L_bestGuess rfl rfl rfl (by decide +kernel) ⟨(Nat.le_of_ble_eq_true rfl), (Nat.le_of_ble_eq_true rfl)⟩) (prS hE hK hP hD hS hA [0, 1, 2] rfl rfl) rfl rfl hl.1 rfl (lv_room (Nat.le_of_ble_eq_true rfl)) dL_asks_160 ⟨by show ((((((k9 + 1) + 16) + 1) + 2) + 2) + 1) ≤ 501; omega, by show ((((((j9 + 6) + 96) + 6) + 12) + 12) + 6) ≤ 3006; omega⟩) hP hD hS hA [0, 1, 2] [3, 4, 5, 6] [4, 5, 6, 0, 1, 2, 3] rfl rfl rfl (by decide) rfl rfl (fun H locs hP hD hS => ?_)
        refine lv_i2l (v := v22.1.toInt64) hx hb dL_asks_163 rfl ?_
        refine lv_ladd hx hb dL_asks_164 ?_
        refine lv_lmul hx hb dL_asks_165 ?_
        refine lv_aload_n hx hb dL_asks_166 rfl (lv_at hl 0 rfl) ?_
        refine lv_iload_n hx hb dL_asks_167 rfl (lv_at hl 2 rfl) ?_
        obtain ⟨v23, hv23, hF⟩ := oB hF
        refine callH_i (wr := [(aH, .inr (2, [.ref aHr, .int kN, .int kK])), (aT, .inr (1, [.ref aTc, .ref aTp, .int tL, .int tS, .int tQ, .int tF])), (aL, .inr (3, [.ref aLc, .int lL_77])), (aLc, .inl (K 4, 32, .inl lC_77))]) (wn := [(aX, .inr (5, [.ref aC, .ref aR, .ref aH, .ref aT, .ref aL, .ref aS, .int xS, .int xF, .int xR, .int xD, .int xC])), (aC, .inr (0, [.ref aCr])), (aCr, .inl (K 0, 55, .inl row)), (aH, .inr (2, [.ref aHr, .int kN, .int kK])), (aT, .inr (1, [.ref aTc, .ref aTp, .int tL, .int tS, .int tQ, .int tF])), (aL, .inr (3, [.ref aLc, .int lL_77])), (aLc, .inl (K 4, 32, .inl lC_77))]) (vx_runSX (As := [.ref aX, .int y77_3]) (rest := [.long ((31 : Int64) * (((31 : Int64) * (((31 : Int64) * (((31 : Int64) * (((31 : Int64) * u18.1) + v19.1.toInt64)) + v20.1.toInt64)) + v21.1.toInt64)) + v22.1.toInt64))]) ⟨hx, hb, hml, hown, hts⟩ (c_L_nearestFree l hfl D K aX aC aCr aR aH aT aL aS xS xF xR xD xC row y77_3 v23 hv23 H.size) (vx_cwSW 2 hts gL_asks_L_nearestFree rfl rfl rfl (by decide +kernel) ⟨(Nat.le_of_ble_eq_true rfl), (Nat.le_of_ble_eq_true rfl)⟩) (prS hE hK hP hD hS hA [0, 1, 2] rfl rfl) rfl rfl hl.1 rfl (lv_room (Nat.le_of_ble_eq_true rfl)) dL_asks_168 ⟨by show (((((((k9 + 1) + 16) + 1) + 2) + 2) + 1) + 2) ≤ 501; omega, by show (((((((j9 + 6) + 96) + 6) + 12) + 12) + 6) + 12) ≤ 3006; omega⟩) hP hD hS hA [0, 1, 2] [3, 4, 5, 6] [4, 5, 6, 0, 1, 2, 3] rfl rfl rfl (by decide) rfl rfl (fun H locs hP hD hS => ?_)
        refine lv_i2l (v := v23.1.toInt64) hx hb dL_asks_171 rfl ?_
        refine lv_ladd hx hb dL_asks_172 ?_
        refine lv_lstore_n (lv' := [(1, .long (((31 : Int64) * (((31 : Int64) * (((31 : Int64) * (((31 : Int64) * (((31 : Int64) * u18.1) + v19.1.toInt64)) + v20.1.toInt64)) + v21.1.toInt64)) + v22.1.toInt64)) + v23.1.toInt64)), (0, .ref aX), (3, .int y77_3), (4, .int u18.2)]) hx hb dL_asks_173 rfl hl (by decide) rfl (fun ls hl => ?_)
        refine lv_iconst (v := (0 : Int32)) hx hb dL_asks_174 (by decide) ?_
        refine lv_istore (lv' := [(4, .int (0 : Int32)), (1, .long (((31 : Int64) * (((31 : Int64) * (((31 : Int64) * (((31 : Int64) * (((31 : Int64) * u18.1) + v19.1.toInt64)) + v20.1.toInt64)) + v21.1.toInt64)) + v22.1.toInt64)) + v23.1.toInt64)), (0, .ref aX), (3, .int y77_3)]) hx hb dL_asks_175 hl (by decide) rfl (fun ls hl => ?_)
        obtain ⟨u26, hu26, hF⟩ := oB hF
        refine loop_177 y77_3 lL_77 lC_77 u26 5 (((31 : Int64) * (((31 : Int64) * (((31 : Int64) * (((31 : Int64) * (((31 : Int64) * u18.1) + v19.1.toInt64)) + v20.1.toInt64)) + v21.1.toInt64)) + v22.1.toInt64)) + v23.1.toInt64) (0 : Int32) hu26 (((((((k9 + 1) + 16) + 1) + 2) + 2) + 1) + 2) (((((((j9 + 6) + 96) + 6) + 12) + 12) + 6) + 12) ((((((((k9 + 1) + 16) + 1) + 2) + 2) + 1) + 2) + 5) ((((((((j9 + 6) + 96) + 6) + 12) + 12) + 6) + 12) + 30) (by omega) (by omega) (by omega) (by omega) (fun H locs hP hD hS ls hl => ?_) _ _ hP hD hS _ (lv_sub hl [2, 1, 3, 0] rfl)
        refine lv_aload_n hx hb dL_asks_204 rfl (lv_at hl 0 rfl) ?_
        refine lv_iload_n hx hb dL_asks_205 rfl (lv_at hl 2 rfl) ?_
        obtain ⟨v27, hv27, hF⟩ := oB hF
        refine callH_i (wr := [(aH, .inr (2, [.ref aHr, .int kN, .int kK])), (aT, .inr (1, [.ref aTc, .ref aTp, .int tL, .int tS, .int tQ, .int tF]))]) (wn := [(aX, .inr (5, [.ref aC, .ref aR, .ref aH, .ref aT, .ref aL, .ref aS, .int xS, .int xF, .int xR, .int xD, .int xC])), (aC, .inr (0, [.ref aCr])), (aCr, .inl (K 0, 55, .inl row)), (aH, .inr (2, [.ref aHr, .int kN, .int kK])), (aT, .inr (1, [.ref aTc, .ref aTp, .int tL, .int tS, .int tQ, .int tF])), (aL, .inr (3, [.ref aLc, .int v27.2.1])), (aLc, .inl (K 4, 32, .inl v27.2.2))]) (vx_runSX (As := [.ref aX, .int y77_3]) (rest := []) ⟨hx, hb, hml, hown, hts⟩ (c_L_line l hfl D K aX aC aCr aR aH aT aL aLc aS xS xF xR xD xC row lL_77 lC_77 y77_3 v27 hv27 H.size) (vx_cwSW 2 hts gL_asks_L_line rfl rfl rfl (by decide +kernel) ⟨(Nat.le_of_ble_eq_true rfl), (Nat.le_of_ble_eq_true rfl)⟩) (prS hE hK hP hD hS hA [0, 1, 2, 5, 6] rfl rfl) rfl rfl hl.1 rfl (lv_room (Nat.le_of_ble_eq_true rfl)) dL_asks_206 ⟨by show (((((((((k9 + 1) + 16) + 1) + 2) + 2) + 1) + 2) + 5) + 1) ≤ 501; omega, by show (((((((((j9 + 6) + 96) + 6) + 12) + 12) + 6) + 12) + 30) + 6) ≤ 3006; omega⟩) hP hD hS hA [0, 1, 2, 5, 6] [3, 4] [2, 3, 4, 0, 1, 5, 6] rfl rfl rfl (by decide) rfl rfl (fun H locs hP hD hS => ?_)
        refine lv_istore (lv' := [(4, .int v27.1), (0, .ref aX), (1, .long u26.1), (3, .int y77_3)]) hx hb dL_asks_209 hl (by decide) rfl (fun ls hl => ?_)
        refine lv_iconst (v := (0 : Int32)) hx hb dL_asks_211 (by decide) ?_
        refine lv_istore (lv' := [(5, .int (0 : Int32)), (4, .int v27.1), (0, .ref aX), (1, .long u26.1), (3, .int y77_3)]) hx hb dL_asks_212 hl (by decide) rfl (fun ls hl => ?_)
        obtain ⟨u30, hu30, hF⟩ := oB hF
        refine loop_214 y77_3 v27.1 v27.2.1 v27.2.2 u30 33 u26.1 (0 : Int32) hu30 (((((((((k9 + 1) + 16) + 1) + 2) + 2) + 1) + 2) + 5) + 1) (((((((((j9 + 6) + 96) + 6) + 12) + 12) + 6) + 12) + 30) + 6) ((((((((((k9 + 1) + 16) + 1) + 2) + 2) + 1) + 2) + 5) + 1) + 33) ((((((((((j9 + 6) + 96) + 6) + 12) + 12) + 6) + 12) + 30) + 6) + 198) (by omega) (by omega) (by omega) (by omega) (fun H locs hP hD hS ls hl => ?_) _ _ hP hD hS _ (lv_sub hl [2, 3, 4, 1, 0] rfl)
        refine lv_iinc (v := y77_3 + (1 : Int32)) (lv' := [(3, .int (y77_3 + (1 : Int32))), (0, .ref aX), (1, .long u30.1), (4, .int v27.1), (5, .int u30.2)]) hx hb dL_asks_241 hl (k := 2) rfl (by first | rfl | decide) (by decide) rfl (fun ls hl => ?_)
        refine lv_goto (tgt := 77) hx hb dL_asks_244 (by decide) ?_
        refine W.widen (k := k9 + 64) (n := j9 + 384) (by show ((((((((((k9 + 1) + 16) + 1) + 2) + 2) + 1) + 2) + 5) + 1) + 33) ≤ _; omega) (by show ((((((((((j9 + 6) + 96) + 6) + 12) + 12) + 6) + 12) + 30) + 6) + 198) ≤ _; omega) ?_
        exact ih u30.1 (y77_3 + (1 : Int32)) v27.2.1 v27.2.2 hF (k9 + 64) (j9 + 384) (by omega) (by omega) _ _ hP hD hS _ (lv_sub hl [1, 2, 0] rfl)
  have loop_50 : ∀ (lL_50 : Int32) (lC_50 : Nat → Int32) (n : Nat) (y50_1 : Int64) (y50_3 : Int32), f_L_asks_L50 row kK tL lL_50 lC_50 n y50_1 y50_3 = some v → ∀ (k9 j9 : Nat), k9 + 1 * n = 19 → j9 + 6 * n = 114 → ∀ (H : Heap) (locs : List Loc), va_P D vwC7 [(aX, .inr (5, [.ref aC, .ref aR, .ref aH, .ref aT, .ref aL, .ref aS, .int xS, .int xF, .int xR, .int xD, .int xC])), (aC, .inr (0, [.ref aCr])), (aCr, .inl (K 0, 55, .inl row)), (aH, .inr (2, [.ref aHr, .int kN, .int kK])), (aT, .inr (1, [.ref aTc, .ref aTp, .int tL, .int tS, .int tQ, .int tF])), (aL, .inr (3, [.ref aLc, .int lL_50])), (aLc, .inl (K 4, 32, .inl lC_50))] H → va_D A [(aX, .inr (5, [.ref aC, .ref aR, .ref aH, .ref aT, .ref aL, .ref aS, .int xS, .int xF, .int xR, .int xD, .int xC])), (aC, .inr (0, [.ref aCr])), (aCr, .inl (K 0, 55, .inl row)), (aH, .inr (2, [.ref aHr, .int kN, .int kK])), (aT, .inr (1, [.ref aTc, .ref aTp, .int tL, .int tS, .int tQ, .int tF])), (aL, .inr (3, [.ref aLc, .int lL_50])), (aLc, .inl (K 4, 32, .inl lC_50))] → va_S A s.heap H locs → ∀ ls : Array Slot, lv_has ls 6 [(0, .ref aX), (1, .long y50_1), (3, .int y50_3)] → W p l e RM_L_asks s m args below meth c H locs k9 j9 (MQ below (QL D (TY K) (wf_L_asks K aX aC aCr aR aH aHr aT aTc aTp aL aLc aS xS xF xR xD xC row kN kK tL tS tQ tF) v A) args s MC_L_asks MS_L_asks A) (F0 m 50 ls []) := by
    intro lL_50 lC_50 n
    induction n with
    | zero =>
      intro y50_1 y50_3 hF
      exact nomatch hF
    | succ n ih =>
      intro y50_1 y50_3 hF k9 j9 hk9 hj9 H locs hP hD hS ls hl
      rw [f_L_asks_L50.eq_2] at hF
      refine lv_iload_n hx hb dL_asks_50 rfl (lv_at hl 2 rfl) ?_
      refine lv_bipush (v := (6 : Int32)) hx hb dL_asks_51 (by decide) ?_
      refine lv_icmp_ge (tgt := 75) hx hb dL_asks_53 (by decide) (fun c6 => ?_) (fun c6 => ?_)
      · have hF := oT c6 hF
        refine W.widen (k := 19) (n := 114) (by show k9 ≤ _; omega) (by show j9 ≤ _; omega) ?_
        refine lv_iconst (v := (0 : Int32)) hx hb dL_asks_75 (by decide) ?_
        refine lv_istore_n (lv' := [(3, .int (0 : Int32)), (0, .ref aX), (1, .long y50_1)]) hx hb dL_asks_76 rfl hl (by decide) rfl (fun ls hl => ?_)
        exact loop_77  7 y50_1 (0 : Int32) lL_50 lC_50 hF 19 114 (by decide) (by decide) _ _ hP hD hS _ (lv_sub hl [1, 2, 0] rfl)
      · have hF := oF c6 hF
        refine lv_ldc2 (v := (31 : Int64)) hx hb hown (hts (.constantLong RL 174 (31)) (List.mem_of_getElem? (i := 1) rfl)) dL_asks_56 ?_
        refine lv_lload_n hx hb dL_asks_59 rfl (lv_at hl 1 rfl) ?_
        refine lv_lmul hx hb dL_asks_60 ?_
        refine lv_aload_n hx hb dL_asks_61 rfl (lv_at hl 0 rfl) ?_
        refine lv_iload_n hx hb dL_asks_62 rfl (lv_at hl 2 rfl) ?_
        obtain ⟨v31, hv31, hF⟩ := oB hF
        refine callH_i (wr := [(aH, .inr (2, [.ref aHr, .int kN, .int kK])), (aT, .inr (1, [.ref aTc, .ref aTp, .int tL, .int tS, .int tQ, .int tF])), (aL, .inr (3, [.ref aLc, .int lL_50])), (aLc, .inl (K 4, 32, .inl lC_50))]) (wn := [(aX, .inr (5, [.ref aC, .ref aR, .ref aH, .ref aT, .ref aL, .ref aS, .int xS, .int xF, .int xR, .int xD, .int xC])), (aC, .inr (0, [.ref aCr])), (aCr, .inl (K 0, 55, .inl row)), (aH, .inr (2, [.ref aHr, .int kN, .int kK])), (aT, .inr (1, [.ref aTc, .ref aTp, .int tL, .int tS, .int tQ, .int tF])), (aL, .inr (3, [.ref aLc, .int lL_50])), (aLc, .inl (K 4, 32, .inl lC_50))]) (vx_runSX (As := [.ref aX, .int y50_3]) (rest := [.long ((31 : Int64) * y50_1)]) ⟨hx, hb, hml, hown, hts⟩ (c_L_weather l hfl D K aX aC aCr aR aH aT aL aS xS xF xR xD xC row y50_3 v31 hv31 H.size) (vx_cwSW 2 hts gL_asks_L_weather rfl rfl rfl (by decide +kernel) ⟨(Nat.le_of_ble_eq_true rfl), (Nat.le_of_ble_eq_true rfl)⟩) (prS hE hK hP hD hS hA [0, 1, 2] rfl rfl) rfl rfl hl.1 rfl (lv_room (Nat.le_of_ble_eq_true rfl)) dL_asks_63 ⟨by show (k9 + 1) ≤ 501; omega, by show (j9 + 6) ≤ 3006; omega⟩) hP hD hS hA [0, 1, 2] [3, 4, 5, 6] [4, 5, 6, 0, 1, 2, 3] rfl rfl rfl (by decide) rfl rfl (fun H locs hP hD hS => ?_)
        refine lv_i2l (v := v31.1.toInt64) hx hb dL_asks_66 rfl ?_
        refine lv_ladd hx hb dL_asks_67 ?_
        refine lv_lstore_n (lv' := [(1, .long (((31 : Int64) * y50_1) + v31.1.toInt64)), (0, .ref aX), (3, .int y50_3)]) hx hb dL_asks_68 rfl hl (by decide) rfl (fun ls hl => ?_)
        refine lv_iinc (v := y50_3 + (1 : Int32)) (lv' := [(3, .int (y50_3 + (1 : Int32))), (1, .long (((31 : Int64) * y50_1) + v31.1.toInt64)), (0, .ref aX)]) hx hb dL_asks_69 hl (k := 2) rfl (by first | rfl | decide) (by decide) rfl (fun ls hl => ?_)
        refine lv_goto (tgt := 50) hx hb dL_asks_72 (by decide) ?_
        refine W.widen (k := k9 + 1) (n := j9 + 6) (by show (k9 + 1) ≤ _; omega) (by show (j9 + 6) ≤ _; omega) ?_
        exact ih (((31 : Int64) * y50_1) + v31.1.toInt64) (y50_3 + (1 : Int32)) hF (k9 + 1) (j9 + 6) (by omega) (by omega) _ _ hP hD hS _ (lv_sub hl [2, 1, 0] rfl)
  have loop_23 : ∀ (lL_23 : Int32) (lC_23 : Nat → Int32) (n : Nat) (y23_1 : Int64) (y23_3 : Int32), f_L_asks_L23 row kK tL lL_23 lC_23 n y23_1 y23_3 = some v → ∀ (k9 j9 : Nat), k9 + 1 * n = 12 → j9 + 6 * n = 72 → ∀ (H : Heap) (locs : List Loc), va_P D vwC7 [(aX, .inr (5, [.ref aC, .ref aR, .ref aH, .ref aT, .ref aL, .ref aS, .int xS, .int xF, .int xR, .int xD, .int xC])), (aC, .inr (0, [.ref aCr])), (aCr, .inl (K 0, 55, .inl row)), (aH, .inr (2, [.ref aHr, .int kN, .int kK])), (aT, .inr (1, [.ref aTc, .ref aTp, .int tL, .int tS, .int tQ, .int tF])), (aL, .inr (3, [.ref aLc, .int lL_23])), (aLc, .inl (K 4, 32, .inl lC_23))] H → va_D A [(aX, .inr (5, [.ref aC, .ref aR, .ref aH, .ref aT, .ref aL, .ref aS, .int xS, .int xF, .int xR, .int xD, .int xC])), (aC, .inr (0, [.ref aCr])), (aCr, .inl (K 0, 55, .inl row)), (aH, .inr (2, [.ref aHr, .int kN, .int kK])), (aT, .inr (1, [.ref aTc, .ref aTp, .int tL, .int tS, .int tQ, .int tF])), (aL, .inr (3, [.ref aLc, .int lL_23])), (aLc, .inl (K 4, 32, .inl lC_23))] → va_S A s.heap H locs → ∀ ls : Array Slot, lv_has ls 6 [(0, .ref aX), (1, .long y23_1), (3, .int y23_3)] → W p l e RM_L_asks s m args below meth c H locs k9 j9 (MQ below (QL D (TY K) (wf_L_asks K aX aC aCr aR aH aHr aT aTc aTp aL aLc aS xS xF xR xD xC row kN kK tL tS tQ tF) v A) args s MC_L_asks MS_L_asks A) (F0 m 23 ls []) := by
    intro lL_23 lC_23 n
    induction n with
    | zero =>
      intro y23_1 y23_3 hF
      exact nomatch hF
    | succ n ih =>
      intro y23_1 y23_3 hF k9 j9 hk9 hj9 H locs hP hD hS ls hl
      rw [f_L_asks_L23.eq_2] at hF
      refine lv_iload_n hx hb dL_asks_23 rfl (lv_at hl 2 rfl) ?_
      refine lv_bipush (v := (9 : Int32)) hx hb dL_asks_24 (by decide) ?_
      refine lv_icmp_ge (tgt := 48) hx hb dL_asks_26 (by decide) (fun c5 => ?_) (fun c5 => ?_)
      · have hF := oT c5 hF
        refine W.widen (k := 12) (n := 72) (by show k9 ≤ _; omega) (by show j9 ≤ _; omega) ?_
        refine lv_iconst (v := (0 : Int32)) hx hb dL_asks_48 (by decide) ?_
        refine lv_istore_n (lv' := [(3, .int (0 : Int32)), (0, .ref aX), (1, .long y23_1)]) hx hb dL_asks_49 rfl hl (by decide) rfl (fun ls hl => ?_)
        exact loop_50 lL_23 lC_23 7 y23_1 (0 : Int32) hF 12 72 (by decide) (by decide) _ _ hP hD hS _ (lv_sub hl [1, 2, 0] rfl)
      · have hF := oF c5 hF
        refine lv_ldc2 (v := (31 : Int64)) hx hb hown (hts (.constantLong RL 174 (31)) (List.mem_of_getElem? (i := 1) rfl)) dL_asks_29 ?_
        refine lv_lload_n hx hb dL_asks_32 rfl (lv_at hl 1 rfl) ?_
        refine lv_lmul hx hb dL_asks_33 ?_
        refine lv_aload_n hx hb dL_asks_34 rfl (lv_at hl 0 rfl) ?_
        refine lv_iload_n hx hb dL_asks_35 rfl (lv_at hl 2 rfl) ?_
        obtain ⟨v32, hv32, hF⟩ := oB hF
        refine callH_i (wr := [(aL, .inr (3, [.ref aLc, .int lL_23])), (aLc, .inl (K 4, 32, .inl lC_23))]) (wn := [(aX, .inr (5, [.ref aC, .ref aR, .ref aH, .ref aT, .ref aL, .ref aS, .int xS, .int xF, .int xR, .int xD, .int xC])), (aC, .inr (0, [.ref aCr])), (aCr, .inl (K 0, 55, .inl row)), (aH, .inr (2, [.ref aHr, .int kN, .int kK])), (aT, .inr (1, [.ref aTc, .ref aTp, .int tL, .int tS, .int tQ, .int tF])), (aL, .inr (3, [.ref aLc, .int lL_23])), (aLc, .inl (K 4, 32, .inl lC_23))]) (vx_runSX (As := [.ref aX, .int y23_3]) (rest := [.long ((31 : Int64) * y23_1)]) ⟨hx, hb, hml, hown, hts⟩ (c_L_account l hfl D K aX aC aCr aR aH aHr aT aTc aTp aL aS xS xF xR xD xC row kN kK tL tS tQ tF y23_3 v32 hv32 H.size) (vx_cwSW 2 hts gL_asks_L_account rfl rfl rfl (by decide +kernel) ⟨(Nat.le_of_ble_eq_true rfl), (Nat.le_of_ble_eq_true rfl)⟩) (prS hE hK hP hD hS hA [0, 1, 2, 3, 4] rfl rfl) rfl rfl hl.1 rfl (lv_room (Nat.le_of_ble_eq_true rfl)) dL_asks_36 ⟨by show (k9 + 1) ≤ 501; omega, by show (j9 + 6) ≤ 3006; omega⟩) hP hD hS hA [0, 1, 2, 3, 4] [5, 6] [2, 3, 4, 5, 6, 0, 1] rfl rfl rfl (by decide) rfl rfl (fun H locs hP hD hS => ?_)
        refine lv_i2l (v := v32.1.toInt64) hx hb dL_asks_39 rfl ?_
        refine lv_ladd hx hb dL_asks_40 ?_
        refine lv_lstore_n (lv' := [(1, .long (((31 : Int64) * y23_1) + v32.1.toInt64)), (0, .ref aX), (3, .int y23_3)]) hx hb dL_asks_41 rfl hl (by decide) rfl (fun ls hl => ?_)
        refine lv_iinc (v := y23_3 + (1 : Int32)) (lv' := [(3, .int (y23_3 + (1 : Int32))), (1, .long (((31 : Int64) * y23_1) + v32.1.toInt64)), (0, .ref aX)]) hx hb dL_asks_42 hl (k := 2) rfl (by first | rfl | decide) (by decide) rfl (fun ls hl => ?_)
        refine lv_goto (tgt := 23) hx hb dL_asks_45 (by decide) ?_
        refine W.widen (k := k9 + 1) (n := j9 + 6) (by show (k9 + 1) ≤ _; omega) (by show (j9 + 6) ≤ _; omega) ?_
        exact ih (((31 : Int64) * y23_1) + v32.1.toInt64) (y23_3 + (1 : Int32)) hF (k9 + 1) (j9 + 6) (by omega) (by omega) _ _ hP hD hS _ (lv_sub hl [2, 1, 0] rfl)
  rw [f_L_asks] at hF
  refine lv_ldc2 (v := (31 : Int64)) hx hb hown (hts (.constantLong RL 174 (31)) (List.mem_of_getElem? (i := 1) rfl)) dL_asks_0 ?_
  refine lv_aload_n hx hb dL_asks_3 rfl (lv_at hl 0 rfl) ?_
  obtain ⟨v1, hv1, hF⟩ := oB hF
  refine callH_d (wr := [(aH, .inr (2, [.ref aHr, .int kN, .int kK])), (aT, .inr (1, [.ref aTc, .ref aTp, .int tL, .int tS, .int tQ, .int tF])), (aL, .inr (3, [.ref aLc, .int lL])), (aLc, .inl (K 4, 32, .inl lC))]) (wn := [(aX, .inr (5, [.ref aC, .ref aR, .ref aH, .ref aT, .ref aL, .ref aS, .int xS, .int xF, .int xR, .int xD, .int xC])), (aC, .inr (0, [.ref aCr])), (aCr, .inl (K 0, 55, .inl row)), (aH, .inr (2, [.ref aHr, .int kN, .int kK])), (aT, .inr (1, [.ref aTc, .ref aTp, .int tL, .int tS, .int tQ, .int tF])), (aL, .inr (3, [.ref aLc, .int lL])), (aLc, .inl (K 4, 32, .inl lC))]) (vx_runSX (As := [.ref aX]) (rest := [.long (31 : Int64)]) ⟨hx, hb, hml, hown, hts⟩ (c_L_meanCoins l hfl D K aX aC aCr aR aH aT aL aS xS xF xR xD xC row v1 hv1 s.heap.size) (vx_cwSW 1 hts gL_asks_L_meanCoins rfl rfl rfl (by decide +kernel) ⟨(Nat.le_of_ble_eq_true rfl), (Nat.le_of_ble_eq_true rfl)⟩) (prS hE hK hP hD hS hA [0, 1, 2] rfl rfl) rfl rfl hl.1 rfl (lv_room (Nat.le_of_ble_eq_true rfl)) dL_asks_4 ⟨(Nat.le_of_ble_eq_true rfl), (Nat.le_of_ble_eq_true rfl)⟩) hP hD hS hA [0, 1, 2] [3, 4, 5, 6] [4, 5, 6, 0, 1, 2, 3] rfl rfl rfl (by decide) rfl rfl (fun H locs hP hD hS => ?_)
  obtain ⟨v2, hv2, hF⟩ := oB hF
  refine call_l (wr := [(aX, .inr (5, [.ref aC, .ref aR, .ref aH, .ref aT, .ref aL, .ref aS, .int xS, .int xF, .int xR, .int xD, .int xC])), (aC, .inr (0, [.ref aCr])), (aCr, .inl (K 0, 55, .inl row)), (aH, .inr (2, [.ref aHr, .int kN, .int kK])), (aT, .inr (1, [.ref aTc, .ref aTp, .int tL, .int tS, .int tQ, .int tF])), (aL, .inr (3, [.ref aLc, .int lL])), (aLc, .inl (K 4, 32, .inl lC))]) (wn := [(aX, .inr (5, [.ref aC, .ref aR, .ref aH, .ref aT, .ref aL, .ref aS, .int xS, .int xF, .int xR, .int xD, .int xC])), (aC, .inr (0, [.ref aCr])), (aCr, .inl (K 0, 55, .inl row)), (aH, .inr (2, [.ref aHr, .int kN, .int kK])), (aT, .inr (1, [.ref aTc, .ref aTp, .int tL, .int tS, .int tQ, .int tF])), (aL, .inr (3, [.ref aLc, .int lL])), (aLc, .inl (K 4, 32, .inl lC))]) (va_runS (As := [.double v1.1]) (rest := [.long (31 : Int64)]) ⟨hx, hb, hml, hown, hts⟩ (c_Jxe99ae_doubleToLongBits_ccdee l D K v1.1 v2 hv2 H.size) (va_cwS 1 hts gL_asks_Jxe99ae_doubleToLongBits_ccdee rfl rfl rfl (by decide +kernel) ⟨(Nat.le_of_ble_eq_true rfl), (Nat.le_of_ble_eq_true rfl)⟩) (prS hE hK hP hD hS hA [] rfl rfl) rfl rfl hl.1 rfl (lv_room (Nat.le_of_ble_eq_true rfl)) dL_asks_7 ⟨(Nat.le_of_ble_eq_true rfl), (Nat.le_of_ble_eq_true rfl)⟩) hP hD hS hA [] [0, 1, 2, 3, 4, 5, 6] [0, 1, 2, 3, 4, 5, 6] rfl rfl rfl (by decide) rfl rfl (fun H locs hP hD hS => ?_)
  refine lv_lmul hx hb dL_asks_10 ?_
  refine lv_aload_n hx hb dL_asks_11 rfl (lv_at hl 0 rfl) ?_
  obtain ⟨v3, hv3, hF⟩ := oB hF
  refine callH_f (wr := [(aH, .inr (2, [.ref aHr, .int kN, .int kK])), (aT, .inr (1, [.ref aTc, .ref aTp, .int tL, .int tS, .int tQ, .int tF])), (aL, .inr (3, [.ref aLc, .int lL])), (aLc, .inl (K 4, 32, .inl lC))]) (wn := [(aX, .inr (5, [.ref aC, .ref aR, .ref aH, .ref aT, .ref aL, .ref aS, .int xS, .int xF, .int xR, .int xD, .int xC])), (aC, .inr (0, [.ref aCr])), (aCr, .inl (K 0, 55, .inl row)), (aH, .inr (2, [.ref aHr, .int kN, .int kK])), (aT, .inr (1, [.ref aTc, .ref aTp, .int tL, .int tS, .int tQ, .int tF])), (aL, .inr (3, [.ref aLc, .int lL])), (aLc, .inl (K 4, 32, .inl lC))]) (vx_runSX (As := [.ref aX]) (rest := [.long ((31 : Int64) * v2.1)]) ⟨hx, hb, hml, hown, hts⟩ (c_L_tappedShare l hfl D K aX aC aCr aR aH aT aL aS xS xF xR xD xC row v3 hv3 H.size) (vx_cwSW 1 hts gL_asks_L_tappedShare rfl rfl rfl (by decide +kernel) ⟨(Nat.le_of_ble_eq_true rfl), (Nat.le_of_ble_eq_true rfl)⟩) (prS hE hK hP hD hS hA [0, 1, 2] rfl rfl) rfl rfl hl.1 rfl (lv_room (Nat.le_of_ble_eq_true rfl)) dL_asks_12 ⟨(Nat.le_of_ble_eq_true rfl), (Nat.le_of_ble_eq_true rfl)⟩) hP hD hS hA [0, 1, 2] [3, 4, 5, 6] [4, 5, 6, 0, 1, 2, 3] rfl rfl rfl (by decide) rfl rfl (fun H locs hP hD hS => ?_)
  obtain ⟨v4, hv4, hF⟩ := oB hF
  refine call_i (wr := [(aX, .inr (5, [.ref aC, .ref aR, .ref aH, .ref aT, .ref aL, .ref aS, .int xS, .int xF, .int xR, .int xD, .int xC])), (aC, .inr (0, [.ref aCr])), (aCr, .inl (K 0, 55, .inl row)), (aH, .inr (2, [.ref aHr, .int kN, .int kK])), (aT, .inr (1, [.ref aTc, .ref aTp, .int tL, .int tS, .int tQ, .int tF])), (aL, .inr (3, [.ref aLc, .int lL])), (aLc, .inl (K 4, 32, .inl lC))]) (wn := [(aX, .inr (5, [.ref aC, .ref aR, .ref aH, .ref aT, .ref aL, .ref aS, .int xS, .int xF, .int xR, .int xD, .int xC])), (aC, .inr (0, [.ref aCr])), (aCr, .inl (K 0, 55, .inl row)), (aH, .inr (2, [.ref aHr, .int kN, .int kK])), (aT, .inr (1, [.ref aTc, .ref aTp, .int tL, .int tS, .int tQ, .int tF])), (aL, .inr (3, [.ref aLc, .int lL])), (aLc, .inl (K 4, 32, .inl lC))]) (va_runS (As := [.float v3.1]) (rest := [.long ((31 : Int64) * v2.1)]) ⟨hx, hb, hml, hown, hts⟩ (c_Jxf58ca_floatToIntBits_5c35a l D K v3.1 v4 hv4 H.size) (va_cwS 1 hts gL_asks_Jxf58ca_floatToIntBits_5c35a rfl rfl rfl (by decide +kernel) ⟨(Nat.le_of_ble_eq_true rfl), (Nat.le_of_ble_eq_true rfl)⟩) (prS hE hK hP hD hS hA [] rfl rfl) rfl rfl hl.1 rfl (lv_room (Nat.le_of_ble_eq_true rfl)) dL_asks_15 ⟨(Nat.le_of_ble_eq_true rfl), (Nat.le_of_ble_eq_true rfl)⟩) hP hD hS hA [] [0, 1, 2, 3, 4, 5, 6] [0, 1, 2, 3, 4, 5, 6] rfl rfl rfl (by decide) rfl rfl (fun H locs hP hD hS => ?_)
  refine lv_i2l (v := v4.1.toInt64) hx hb dL_asks_18 rfl ?_
  refine lv_ladd hx hb dL_asks_19 ?_
  refine lv_lstore_n (lv' := [(1, .long (((31 : Int64) * v2.1) + v4.1.toInt64)), (0, .ref aX)]) hx hb dL_asks_20 rfl hl (by decide) rfl (fun ls hl => ?_)
  refine lv_iconst (v := (0 : Int32)) hx hb dL_asks_21 (by decide) ?_
  refine lv_istore_n (lv' := [(3, .int (0 : Int32)), (1, .long (((31 : Int64) * v2.1) + v4.1.toInt64)), (0, .ref aX)]) hx hb dL_asks_22 rfl hl (by decide) rfl (fun ls hl => ?_)
  exact loop_23 lL lC 10 (((31 : Int64) * v2.1) + v4.1.toInt64) (0 : Int32) hF 2 12 (by decide) (by decide) _ _ hP hD hS _ (lv_sub hl [2, 1, 0] rfl)
