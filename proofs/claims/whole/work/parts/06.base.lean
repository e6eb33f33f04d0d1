/-! ===== what a pure function that answers tells of its parts ===== -/
theorem oT {α : Type} {c : Prop} {i : Decidable c} {a b r : α} (h : c) (e : (@ite α c i a b) = r) : a = r := by rw [if_pos h] at e; exact e
theorem oF {α : Type} {c : Prop} {i : Decidable c} {a b r : α} (h : ¬ c) (e : (@ite α c i a b) = r) : b = r := by rw [if_neg h] at e; exact e
theorem oG {α : Type} {b : Bool} {a : Option α} {r : α} (e : (bif b then a else none) = some r) : b = true ∧ a = some r := by
  cases b
  · exact nomatch e
  · exact ⟨rfl, e⟩
theorem oB {α β : Type} {o : Option α} {f : α → Option β} {r : β} (e : o.bind f = some r) : ∃ v, o = some v ∧ f v = some r := by
  cases o with
  | none => exact nomatch e
  | some v => exact ⟨v, rfl, e⟩
/-- an index that lies in a row of n -/
def inB (i : Int32) (n : Nat) : Bool := decide (0 ≤ i.toInt) && decide (i.toInt < (n : Int))
theorem inB_in {i : Int32} {n : Nat} (h : inB i n = true) : vp_in i n := by
  simp only [inB, Bool.and_eq_true, decide_eq_true_eq] at h
  exact vp_in_iff.mpr h
def nz (y : Int32) : Bool := decide (¬ y = 0)
theorem nz_ne {y : Int32} (h : nz y = true) : ¬ y = 0 := of_decide_eq_true h
def n64 (x : UInt64) : Bool := decide (x &&& 0x7fffffffffffffff ≤ 0x7ff0000000000000)
theorem n64_n {x : UInt64} (h : n64 x = true) : vf_n64 x := of_decide_eq_true h
def n32 (x : UInt32) : Bool := decide (x &&& 0x7fffffff ≤ 0x7f800000)
theorem n32_n {x : UInt32} (h : n32 x = true) : vf_n32 x := of_decide_eq_true h
/-- a value that a narrow type keeps -/
def okN (ty : FieldType) (x : Int32) : Bool := decide (narrow ty (.int x) = .int x ∧ fits ty (.int x) = true)
theorem okN_n {ty : FieldType} {x : Int32} (h : okN ty x = true) : narrow ty (.int x) = .int x := (of_decide_eq_true h).1
theorem okN_f {ty : FieldType} {x : Int32} (h : okN ty x = true) : fits ty (.int x) = true := (of_decide_eq_true h).2
def jmax (x y : Int32) : Int32 := if x < y then y else x
def jmin (x y : Int32) : Int32 := if x < y then x else y
/-! ===== the classes of arrays, by number; what a launch holds beside the worlds ===== -/
abbrev TY (K : Nat → ClassId) : List (ClassId × FieldType) := [(K 0, .int), (K 1, .int), (K 2, .char), (K 3, .int), (K 4, .char), (K 5, .int), (K 6, .int), (K 7, .int), (K 8, .int), (K 9, .int), (K 10, .char), (K 11, .char), (K 12, .int), (K 13, .long), (K 14, .double)]
def exN : Nat → String
  | 1 => "java/lang/IndexOutOfBoundsException"
  | 2 => "java/lang/IllegalArgumentException"
  | 3 => "java/util/NoSuchElementException"
  | 4 => "java/lang/IllegalStateException"
  | 5 => "java/lang/ArithmeticException"
  | _ => "java/lang/UnsupportedOperationException"
def envNest : List (String × Nat × MethodName × String) := [("BarometerClub", 18, yX6_init, "BarometerClub"), ("BarometerClub", 25, yX2_init, "BarometerClub"), ("BarometerClub", 32, yX1_init, "BarometerClub"), ("BarometerClub", 39, yX4_init, "BarometerClub"), ("BarometerClub$Rules", 62, yX7_isHeight, "BarometerClub"), ("BarometerClub$Club", 41, yX7_isHeight, "BarometerClub"), ("BarometerClub$Rules", 109, yX7_signOf, "BarometerClub"), ("BarometerClub$Rules", 112, yX7_isChange, "BarometerClub"), ("BarometerClub$Rules", 115, yX7_isPressure, "BarometerClub"), ("BarometerClub$Judge", 48, yX7_held, "BarometerClub")]
def envDecl : List MethodName := [⟨"java/lang/RuntimeException", "<init>", "(Ljava/lang/String;)V"⟩, ⟨"java/lang/Exception", "<init>", "(Ljava/lang/String;)V"⟩, ⟨"java/lang/Throwable", "<init>", "(Ljava/lang/String;)V"⟩, ⟨"java/lang/IndexOutOfBoundsException", "<init>", "(Ljava/lang/String;)V"⟩]
def envCast : List String := ["java/lang/UnsupportedOperationException", "java/lang/IndexOutOfBoundsException", "java/lang/IllegalArgumentException", "java/util/NoSuchElementException", "java/lang/IllegalStateException", "java/lang/ArithmeticException"]
def envNc : List (String × String) := [("java/lang/IllegalArgumentException", "java/lang/IndexOutOfBoundsException"), ("java/util/NoSuchElementException", "java/lang/IndexOutOfBoundsException"), ("java/util/NoSuchElementException", "java/lang/IllegalArgumentException"), ("java/lang/UnsupportedOperationException", "java/lang/IllegalArgumentException")]
def envMsg : List (String × Nat × String) := [(RX7, 280, "the call is refused"), (RX7, 291, "there is no such member"), (RX7, 75, "what is not from 0 to 6"), (RX7, 104, "the member has not wagered"), (RX7, 113, "there is no such height"), (RX7, 118, "nobody owns the height"), (RX7, 133, "the change is not from -40 to 40"), (RX7, 142, "the member would win alone by no change"), (RX7, 151, "there is no free height that the member could pay for"), (RX7, 155, "there is no such measure"), (RX7, 160, "there is no such place"), (RX7, 162, "what is not from 0 to 5"), (RX7, 174, "the buffer contains 60 characters"), (RX7, 190, "the text has a fault"), (RX7, 220, "a command is refused"), (RX7, 226, "what is not from 0 to 2"), (RX7, 228, "nothing was refused"), (RX7, 240, "there is no such index"), (RX7, 249, "there are no members"), (RX7, 255, "nobody has wagered"), (RX7, 261, "what is not from 0 to 10"), (RX7, 263, "there is no change that can be undone"), (RX7, 272, "there is no snapshot")]
def envWord : List Int32 := [106, 120, 109, 115, 119, 116, 100, 98, 111, 114]
def ENV (A : Nat → Prop) (U : State) (H : Heap) : Prop :=
  vx_Zq Bundle.tN "UNASSIGNED_STACK" Bundle.steD A U H ∧ vx_Zq Bundle.tN "SUPPRESSED_SENTINEL" Bundle.listD A U H ∧
  (∀ q ∈ envNest, va_Nw (.methodLinkNest q.1 q.2.1 q.2.2.1 q.2.2.2) U) ∧ (∀ q ∈ envDecl, va_Nw (.declares q) U) ∧ (∀ q ∈ envCast, va_Nw (.castable q q) U) ∧ (∀ q ∈ envNc, va_Nc q.1 q.2 U) ∧
  (∀ q ∈ envMsg, ∃ a, vk_R q.1 q.2.1 q.2.2 a U) ∧ (∃ adK adV, vk_S 1 [10] [envWord] adK adV A U H ∧ vk_R RX8 189 "jxmswtdbor" (adK 0) U) ∧ va_Z "java/lang/String" "COMPACT_STRINGS" "Z" (.int 1) A U H
theorem ENV.warm {A : Nat → Prop} {s U : State} {H : Heap} (hW : s.WarmedH U.vm) (h : ENV A s H) : ENV A U H := by
  obtain ⟨h1, h2, h3, h4, h5, h6, h7, ⟨aK, aV, h8, h9⟩, h10⟩ := h
  exact ⟨vx_Zq.moved hW.alike h1, vx_Zq.moved hW.alike h2, fun q hq => va_Nw.warmM hW (h3 q hq), fun q hq => va_Nw.warmD hW (h4 q hq), fun q hq => va_Nw.warmC hW (h5 q hq), fun q hq => va_Nc.moved hW.alike (h6 q hq),
    fun q hq => (h7 q hq).imp fun a ha => vk_R.warm hW ha, ⟨aK, aV, vk_S.moved hW.alike h8, vk_R.warm hW h9⟩, va_Z.moved hW.alike h10⟩
theorem ENV.same {A : Nat → Prop} {s U : State} {H : Heap} (hv : U.vm = s.vm) (h : ENV A s H) : ENV A U H := by
  obtain ⟨h1, h2, h3, h4, h5, h6, h7, ⟨aK, aV, h8, h9⟩, h10⟩ := h
  have ha : s.vm.Alike U.vm := by rw [hv]; exact Vm.Alike.refl _
  exact ⟨vx_Zq.moved ha h1, vx_Zq.moved ha h2, fun q hq => va_Nw.same rfl hv.symm (h3 q hq), fun q hq => va_Nw.same rfl hv.symm (h4 q hq), fun q hq => va_Nw.same rfl hv.symm (h5 q hq), fun q hq => va_Nc.moved ha (h6 q hq),
    fun q hq => (h7 q hq).imp fun a h => vk_R.same hv h, ⟨aK, aV, vk_S.moved ha h8, vk_R.same hv h9⟩, va_Z.moved ha h10⟩
theorem ENV.kept {A : Nat → Prop} {U : State} {H H1 : Heap} (h : ENV A U H) (hq : ∀ a : Nat, a < H.size → ¬ A a → H1[a]? = H[a]?) : ENV A U H1 := by
  obtain ⟨h1, h2, h3, h4, h5, h6, h7, ⟨aK, aV, h8, h9⟩, h10⟩ := h
  exact ⟨h1.kept hq, h2.kept hq, h3, h4, h5, h6, h7, ⟨aK, aV, h8.kept hq, h9⟩, h10.kept hq⟩
theorem ENV.narrow {A B : Nat → Prop} {U : State} {H : Heap} (h : ENV A U H) (hAB : ∀ q, B q → A q) : ENV B U H := by
  obtain ⟨h1, h2, h3, h4, h5, h6, h7, ⟨aK, aV, h8, h9⟩, h10⟩ := h
  exact ⟨h1.narrow hAB, h2.narrow hAB, h3, h4, h5, h6, h7, ⟨aK, aV, h8.narrow hAB, h9⟩, h10.narrow hAB⟩
/-! ===== contracts: the world before, the world behind ===== -/
def PC (D : va_G) (tys : List (ClassId × FieldType)) (wl : va_W) (av : List Value) (sz : Nat) : Array Value → State → Prop :=
  va_Pc av (fun U => U.heap.size = sz ∧ va_P D vwCl wl U.heap ∧ va_K D vwCl tys U ∧ va_D (fun _ => True) wl ∧ ENV (va_A wl sz) U U.heap)
theorem PC_blind {D : va_G} {tys : List (ClassId × FieldType)} {wl : va_W} {av : List Value} {sz : Nat} : FrameBlind (PC D tys wl av sz) := fun a U g mk q => by
  obtain ⟨q0, q1, qP, qK, qD, qE⟩ := q
  exact ⟨q0, q1, qP, va_K.moved (u := U) (U := U.calling g mk a) (Vm.Alike.refl U.vm) qK, qD, ENV.same (s := U) (U := U.calling g mk a) rfl qE⟩
def BT (D : va_G) (tys : List (ClassId × FieldType)) (A : Nat → Prop) (wl : va_W) (t : State) : Prop := va_P D vwCl wl t.heap ∧ va_K D vwCl tys t ∧ va_D A wl
def QI (D : va_G) (tys : List (ClassId × FieldType)) {S : Type} (wf : Int32 × S → va_W) (v : Int32 × S) (A : Nat → Prop) := va_Qi (fun (r : Int32) (_ : Unit) => r = v.1) (fun _ t => BT D tys A (wf v) t) A
def QF (D : va_G) (tys : List (ClassId × FieldType)) {S : Type} (wf : UInt32 × S → va_W) (v : UInt32 × S) (A : Nat → Prop) := va_Qf (fun (r : UInt32) (_ : Unit) => r = v.1) (fun _ t => BT D tys A (wf v) t) A
def QD (D : va_G) (tys : List (ClassId × FieldType)) {S : Type} (wf : UInt64 × S → va_W) (v : UInt64 × S) (A : Nat → Prop) := va_Qd (fun (r : UInt64) (_ : Unit) => r = v.1) (fun _ t => BT D tys A (wf v) t) A
def QV (D : va_G) (tys : List (ClassId × FieldType)) {S : Type} (wf : S → va_W) (v : S) (A : Nat → Prop) := va_Qv (fun (_ : Unit) => True) (fun _ t => BT D tys A (wf v) t) A
def XI (D : va_G) (tys : List (ClassId × FieldType)) {S : Type} (wf : Nat × Int32 × S → va_W) (v : Nat × Int32 × S) (A : Nat → Prop) := va_Qi (fun (r : Int32) (_ : Unit) => v.1 = 0 ∧ r = v.2.1) (fun _ t => BT D tys A (wf v) t) A
def XF (D : va_G) (tys : List (ClassId × FieldType)) {S : Type} (wf : Nat × UInt32 × S → va_W) (v : Nat × UInt32 × S) (A : Nat → Prop) := va_Qf (fun (r : UInt32) (_ : Unit) => v.1 = 0 ∧ r = v.2.1) (fun _ t => BT D tys A (wf v) t) A
def XD (D : va_G) (tys : List (ClassId × FieldType)) {S : Type} (wf : Nat × UInt64 × S → va_W) (v : Nat × UInt64 × S) (A : Nat → Prop) := va_Qd (fun (r : UInt64) (_ : Unit) => v.1 = 0 ∧ r = v.2.1) (fun _ t => BT D tys A (wf v) t) A
def XV (D : va_G) (tys : List (ClassId × FieldType)) {S : Type} (wf : Nat × S → va_W) (v : Nat × S) (A : Nat → Prop) := va_Qv (fun (_ : Unit) => v.1 = 0) (fun _ t => BT D tys A (wf v) t) A
def XX (D : va_G) (tys : List (ClassId × FieldType)) {S : Type} (wf : Nat × S → va_W) (v : Nat × S) (A : Nat → Prop) := vx_X (fun (_ : Unit) => ¬ v.1 = 0) (fun E _ t => E = exN v.1 ∧ BT D tys A (wf v) t) A
theorem fm_of {α : Type} {is : List Nat} {ws w : List α} (h : is.map (fun i => ws[i]?) = w.map some) : is.filterMap (fun i => ws[i]?) = w := by
  have e : is.filterMap (fun i => ws[i]?) = (is.map (fun i => ws[i]?)).filterMap id := by
    rw [List.filterMap_map]; rfl
  rw [e, h]
  induction w with
  | nil => rfl
  | cons a t ih => simp
section PRO
variable {l : Launch} {y : MethodName} {ws ws' : List Cond} {rm : Room} {D : va_G} {tys : List (ClassId × FieldType)} {wl : va_W} {av : List Value} {mc ms sz maxL : Nat} {cc : ByteArray} {ret : Option FieldType}
/-- a method's beginning -/
theorem pro {Qf : (Nat → Prop) → Array Value → State → Outcome → State → Prop} (hy : plainName y.cls = true) (hw : ws = Cond.code y cc maxL ret :: ws') (hsl : (lg_sl av).length ≤ maxL)
    (body : ∀ (p : Program) (e : Env) (s : State) (m : MethodId) (args : Array Value) (below : List Frame) (meth : Method) (c : Code), p.tables.exec = Jvm.exec → c.code = cc → meth.sig.returnType = ret → (∀ w ∈ ws, w.before args s = true) → s.vm.findClass y.cls = some m.cls → meth.locks = false → c.maxLocals = maxL → (y.name = "<init>" → meth.name = "<init>") → va_K D vwCl tys s →
      ∀ A : Nat → Prop, (∀ q, s.heap.size ≤ q → A q) → ENV A s s.heap → va_P D vwCl wl s.heap → va_D A wl → va_S A s.heap s.heap [] → ∀ ls, lv_has ls maxL (lv_args 0 av) →
        W p l e rm s m args below meth c s.heap [] 0 0 (MQ below (Qf A) args s mc ms A) (F0 m 0 ls [])) :
    Met l y ws rm (PC D tys wl av sz) (Qf (va_A wl sz)) mc ms (va_A wl sz) := by
  refine Met.ofW (cc := cc) (maxL := maxL) (ret := ret) hy hw ?_
  intro p e s m args below meth c s₁ B hml hv
  obtain ⟨rfl, hsz, hP, hK, hD0, hE⟩ := hv
  subst hsz
  have hD := hD0.self (sz := s.heap.size)
  have hl := lv_entry av (n := maxL) hsl
  rw [lg_entry_eq]
  exact body p e s m _ below meth c B.exec B.bytes B.returns (atoms_spec (ws := ws) B.pre) (findClass_of_methodNamed B.named) B.notSynchronized hml (fun h => (name_of_methodNamed B.named B.method).1.trans h) hK _ (fun q h => Or.inr h) hE hP hD va_S.rf _ hl
/-- a method that may throw -/
theorem proX {Qf : (Nat → Prop) → Array Value → State → Outcome → State → Prop} {XCf : (Nat → Prop) → String → State → State → Prop} (hy : plainName y.cls = true) (hw : ws = Cond.code y cc maxL ret :: ws') (hsl : (lg_sl av).length ≤ maxL)
    (body : ∀ (p : Program) (e : Env) (s : State) (m : MethodId) (args : Array Value) (below : List Frame) (meth : Method) (c : Code), p.tables.exec = Jvm.exec → c.code = cc → meth.sig.returnType = ret → (∀ w ∈ ws, w.before args s = true) → s.vm.findClass y.cls = some m.cls → meth.locks = false → c.maxLocals = maxL → (∀ x ∈ c.exceptionTable.toList, False) → va_K D vwCl tys s →
      ∀ A : Nat → Prop, (∀ q, s.heap.size ≤ q → A q) → ENV A s s.heap → va_P D vwCl wl s.heap → va_D A wl → va_S A s.heap s.heap [] → ∀ ls, lv_has ls maxL (lv_args 0 av) →
        W p l e rm s m args below meth c s.heap [] 0 0 (vx_MQ below (Qf A) (XCf A) args s mc ms A) (F0 m 0 ls [])) :
    vx_Met l y ws rm (PC D tys wl av sz) (Qf (va_A wl sz)) (XCf (va_A wl sz)) mc ms (va_A wl sz) := by
  refine vx_ofW (cc := cc) (maxL := maxL) (ret := ret) hy hw ?_
  intro p e s m args below meth c s₁ B hml ht hv
  obtain ⟨rfl, hsz, hP, hK, hD0, hE⟩ := hv
  subst hsz
  have hD := hD0.self (sz := s.heap.size)
  have hl := lv_entry av (n := maxL) hsl
  rw [lg_entry_eq]
  exact body p e s m _ below meth c B.exec B.bytes B.returns (atoms_spec (ws := ws) B.pre) (findClass_of_methodNamed B.named) B.notSynchronized hml ht hK _ (fun q h => Or.inr h) hE hP hD va_S.rf _ hl
/-- a method with a table of handlers -/
theorem proH {Qf : (Nat → Prop) → Array Value → State → Outcome → State → Prop} {XCf : (Nat → Prop) → String → State → State → Prop} {hh : List (Nat × Nat × Nat × Nat)} (hy : plainName y.cls = true) (hw : ws = Cond.codeWith y cc maxL ret hh :: ws') (hsl : (lg_sl av).length ≤ maxL)
    (body : ∀ (p : Program) (e : Env) (s : State) (m : MethodId) (args : Array Value) (below : List Frame) (meth : Method) (c : Code), p.tables.exec = Jvm.exec → c.code = cc → meth.sig.returnType = ret → (∀ w ∈ ws, w.before args s = true) → s.vm.findClass y.cls = some m.cls → meth.locks = false → c.maxLocals = maxL → c.exceptionTable.toList = tableOf hh → va_K D vwCl tys s →
      ∀ A : Nat → Prop, (∀ q, s.heap.size ≤ q → A q) → ENV A s s.heap → va_P D vwCl wl s.heap → va_D A wl → va_S A s.heap s.heap [] → ∀ ls, lv_has ls maxL (lv_args 0 av) →
        W p l e rm s m args below meth c s.heap [] 0 0 (vx_MQ below (Qf A) (XCf A) args s mc ms A) (F0 m 0 ls [])) :
    vx_Met l y ws rm (PC D tys wl av sz) (Qf (va_A wl sz)) (XCf (va_A wl sz)) mc ms (va_A wl sz) := by
  refine vx_ofWH (cc := cc) (maxL := maxL) (ret := ret) (hh := hh) hy hw ?_
  intro p e s m args below meth c s₁ B hml hv
  obtain ⟨rfl, hsz, hP, hK, hD0, hE⟩ := hv
  subst hsz
  have hD := hD0.self (sz := s.heap.size)
  have hl := lv_entry av (n := maxL) hsl
  have hts := atoms_spec (ws := ws) B.pre
  have htab : c.exceptionTable.toList = tableOf hh := vx_table B (hts _ (by rw [hw]; exact List.mem_cons_self))
  rw [lg_entry_eq]
  exact body p e s m _ below meth c B.exec B.bytes B.returns hts (findClass_of_methodNamed B.named) B.notSynchronized hml htab hK _ (fun q h => Or.inr h) hE hP hD va_S.rf _ hl
end PRO
section FIN
variable {p : Program} {l : Launch} {e : Env} {R : Room} {s : State} {m : MethodId} {args : Array Value} {below : List Frame} {meth : Method} {c : Code} {H : Heap} {locs : List Loc} {cells slots mc ms : Nat}
variable {cc : ByteArray} {pc : Nat} {ls : Array Slot} {D : va_G} {tys : List (ClassId × FieldType)} {A : Nat → Prop} {S : Type}
theorem fin_i {wf : Int32 × S → va_W} {u v : Int32 × S} (hF : some u = some v) (hx : p.tables.exec = Jvm.exec) (hb : c.code = cc) (hr : meth.sig.returnType = some .int) (hlocks : meth.locks = false) (hK : va_K D vwCl tys s) (hP : va_P D vwCl (wf u) H) (hD : va_D A (wf u)) (hS : va_S A s.heap H locs) (hc : cells ≤ mc) (hs : slots ≤ ms) (d : decode cc pc = .ok (.ireturn, 1)) :
    W p l e R s m args below meth c H locs cells slots (MQ below (QI D tys wf v A) args s mc ms A) (F0 m pc ls [.int u.1]) := by
  cases hF
  exact W.widen hc hs (W.iret hx hb hr (fun t ht hW => ⟨⟨_, (), rfl, rfl, by rw [ht]; exact hP, va_K.moved hW.alike hK, hD⟩, hS.F ht⟩) hS.2.2 d hlocks)
theorem fin_z {ty : FieldType} {wf : Int32 × S → va_W} {u v : Int32 × S} (hF : some u = some v) (hn : narrow ty (.int u.1) = .int u.1) (hx : p.tables.exec = Jvm.exec) (hb : c.code = cc) (hr : meth.sig.returnType = some ty) (hlocks : meth.locks = false) (hK : va_K D vwCl tys s) (hP : va_P D vwCl (wf u) H) (hD : va_D A (wf u)) (hS : va_S A s.heap H locs) (hc : cells ≤ mc) (hs : slots ≤ ms) (d : decode cc pc = .ok (.ireturn, 1)) :
    W p l e R s m args below meth c H locs cells slots (MQ below (QI D tys wf v A) args s mc ms A) (F0 m pc ls [.int u.1]) := by
  cases hF
  exact W.widen hc hs (W.zret hx hb hr hn (fun t ht hW => ⟨⟨_, (), rfl, rfl, by rw [ht]; exact hP, va_K.moved hW.alike hK, hD⟩, hS.F ht⟩) hS.2.2 d hlocks)
theorem fin_f {wf : UInt32 × S → va_W} {u v : UInt32 × S} (hF : some u = some v) (hx : p.tables.exec = Jvm.exec) (hb : c.code = cc) (hr : meth.sig.returnType = some .float) (hlocks : meth.locks = false) (hK : va_K D vwCl tys s) (hP : va_P D vwCl (wf u) H) (hD : va_D A (wf u)) (hS : va_S A s.heap H locs) (hc : cells ≤ mc) (hs : slots ≤ ms) (d : decode cc pc = .ok (.freturn, 1)) :
    W p l e R s m args below meth c H locs cells slots (MQ below (QF D tys wf v A) args s mc ms A) (F0 m pc ls [.float u.1]) := by
  cases hF
  exact W.widen hc hs (W.fret hx hb hr (fun t ht hW => ⟨⟨_, (), rfl, rfl, by rw [ht]; exact hP, va_K.moved hW.alike hK, hD⟩, hS.F ht⟩) hS.2.2 d hlocks)
theorem fin_d {wf : UInt64 × S → va_W} {u v : UInt64 × S} (hF : some u = some v) (hx : p.tables.exec = Jvm.exec) (hb : c.code = cc) (hr : meth.sig.returnType = some .double) (hlocks : meth.locks = false) (hK : va_K D vwCl tys s) (hP : va_P D vwCl (wf u) H) (hD : va_D A (wf u)) (hS : va_S A s.heap H locs) (hc : cells ≤ mc) (hs : slots ≤ ms) (d : decode cc pc = .ok (.dreturn, 1)) :
    W p l e R s m args below meth c H locs cells slots (MQ below (QD D tys wf v A) args s mc ms A) (F0 m pc ls [.double u.1]) := by
  cases hF
  exact W.widen hc hs (W.dret hx hb hr (fun t ht hW => ⟨⟨_, (), rfl, rfl, by rw [ht]; exact hP, va_K.moved hW.alike hK, hD⟩, hS.F ht⟩) hS.2.2 d hlocks)
theorem fin_v {wf : S → va_W} {u v : S} (hF : some u = some v) (hx : p.tables.exec = Jvm.exec) (hb : c.code = cc) (hr : meth.sig.returnType = none) (hlocks : meth.locks = false) (hK : va_K D vwCl tys s) (hP : va_P D vwCl (wf u) H) (hD : va_D A (wf u)) (hS : va_S A s.heap H locs) (hc : cells ≤ mc) (hs : slots ≤ ms) (d : decode cc pc = .ok (.return_, 1)) :
    W p l e R s m args below meth c H locs cells slots (MQ below (QV D tys wf v A) args s mc ms A) (F0 m pc ls []) := by
  cases hF
  exact W.widen hc hs (W.vret hx hb hr (fun t ht hW => ⟨⟨(), rfl, trivial, by rw [ht]; exact hP, va_K.moved hW.alike hK, hD⟩, hS.F ht⟩) hS.2.2 d hlocks)
variable {XC : String → State → State → Prop}
theorem finX_i {wf : Nat × Int32 × S → va_W} {u v : Nat × Int32 × S} (hF : some u = some v) (h0 : u.1 = 0) (hx : p.tables.exec = Jvm.exec) (hb : c.code = cc) (hr : meth.sig.returnType = some .int) (hlocks : meth.locks = false) (hK : va_K D vwCl tys s) (hP : va_P D vwCl (wf u) H) (hD : va_D A (wf u)) (hS : va_S A s.heap H locs) (hc : cells ≤ mc) (hs : slots ≤ ms) (d : decode cc pc = .ok (.ireturn, 1)) :
    W p l e R s m args below meth c H locs cells slots (vx_MQ below (XI D tys wf v A) XC args s mc ms A) (F0 m pc ls [.int u.2.1]) := by
  cases hF
  exact W.widen hc hs (vx_ret (W.iret hx hb hr (fun t ht hW => ⟨⟨_, (), rfl, ⟨h0, rfl⟩, by rw [ht]; exact hP, va_K.moved hW.alike hK, hD⟩, hS.F ht⟩) hS.2.2 d hlocks))
theorem finX_z {ty : FieldType} {wf : Nat × Int32 × S → va_W} {u v : Nat × Int32 × S} (hF : some u = some v) (h0 : u.1 = 0) (hn : narrow ty (.int u.2.1) = .int u.2.1) (hx : p.tables.exec = Jvm.exec) (hb : c.code = cc) (hr : meth.sig.returnType = some ty) (hlocks : meth.locks = false) (hK : va_K D vwCl tys s) (hP : va_P D vwCl (wf u) H) (hD : va_D A (wf u)) (hS : va_S A s.heap H locs) (hc : cells ≤ mc) (hs : slots ≤ ms) (d : decode cc pc = .ok (.ireturn, 1)) :
    W p l e R s m args below meth c H locs cells slots (vx_MQ below (XI D tys wf v A) XC args s mc ms A) (F0 m pc ls [.int u.2.1]) := by
  cases hF
  exact W.widen hc hs (vx_ret (W.zret hx hb hr hn (fun t ht hW => ⟨⟨_, (), rfl, ⟨h0, rfl⟩, by rw [ht]; exact hP, va_K.moved hW.alike hK, hD⟩, hS.F ht⟩) hS.2.2 d hlocks))
theorem finX_f {wf : Nat × UInt32 × S → va_W} {u v : Nat × UInt32 × S} (hF : some u = some v) (h0 : u.1 = 0) (hx : p.tables.exec = Jvm.exec) (hb : c.code = cc) (hr : meth.sig.returnType = some .float) (hlocks : meth.locks = false) (hK : va_K D vwCl tys s) (hP : va_P D vwCl (wf u) H) (hD : va_D A (wf u)) (hS : va_S A s.heap H locs) (hc : cells ≤ mc) (hs : slots ≤ ms) (d : decode cc pc = .ok (.freturn, 1)) :
    W p l e R s m args below meth c H locs cells slots (vx_MQ below (XF D tys wf v A) XC args s mc ms A) (F0 m pc ls [.float u.2.1]) := by
  cases hF
  exact W.widen hc hs (vx_ret (W.fret hx hb hr (fun t ht hW => ⟨⟨_, (), rfl, ⟨h0, rfl⟩, by rw [ht]; exact hP, va_K.moved hW.alike hK, hD⟩, hS.F ht⟩) hS.2.2 d hlocks))
theorem finX_d {wf : Nat × UInt64 × S → va_W} {u v : Nat × UInt64 × S} (hF : some u = some v) (h0 : u.1 = 0) (hx : p.tables.exec = Jvm.exec) (hb : c.code = cc) (hr : meth.sig.returnType = some .double) (hlocks : meth.locks = false) (hK : va_K D vwCl tys s) (hP : va_P D vwCl (wf u) H) (hD : va_D A (wf u)) (hS : va_S A s.heap H locs) (hc : cells ≤ mc) (hs : slots ≤ ms) (d : decode cc pc = .ok (.dreturn, 1)) :
    W p l e R s m args below meth c H locs cells slots (vx_MQ below (XD D tys wf v A) XC args s mc ms A) (F0 m pc ls [.double u.2.1]) := by
  cases hF
  exact W.widen hc hs (vx_ret (W.dret hx hb hr (fun t ht hW => ⟨⟨_, (), rfl, ⟨h0, rfl⟩, by rw [ht]; exact hP, va_K.moved hW.alike hK, hD⟩, hS.F ht⟩) hS.2.2 d hlocks))
theorem finX_v {wf : Nat × S → va_W} {u v : Nat × S} (hF : some u = some v) (h0 : u.1 = 0) (hx : p.tables.exec = Jvm.exec) (hb : c.code = cc) (hr : meth.sig.returnType = none) (hlocks : meth.locks = false) (hK : va_K D vwCl tys s) (hP : va_P D vwCl (wf u) H) (hD : va_D A (wf u)) (hS : va_S A s.heap H locs) (hc : cells ≤ mc) (hs : slots ≤ ms) (d : decode cc pc = .ok (.return_, 1)) :
    W p l e R s m args below meth c H locs cells slots (vx_MQ below (XV D tys wf v A) XC args s mc ms A) (F0 m pc ls []) := by
  cases hF
  exact W.widen hc hs (vx_ret (W.vret hx hb hr (fun t ht hW => ⟨⟨(), rfl, h0, by rw [ht]; exact hP, va_K.moved hW.alike hK, hD⟩, hS.F ht⟩) hS.2.2 d hlocks))
/-- what a callee threw goes on to the caller -/
theorem out_x {Qc : Array Value → State → Outcome → State → Prop} {rest : List Value} {wf : Nat × S → va_W} {u v : Nat × S} {q : Addr} {ce : Cell} (hF : some u = some v) (h0 : ¬ u.1 = 0) (ht0 : ∀ x ∈ c.exceptionTable.toList, False) (hlocks : meth.locks = false) (hK : va_K D vwCl tys s) (hP : va_P D vwCl (wf u) H) (hD : va_D A (wf u)) (hS : va_S A s.heap H locs) (hcell : H[q]? = some ce) (hv : ce.vm = .none) (hcl : s.vm.findClass (exN u.1) = some ce.cls) (hc : cells ≤ mc) (hs : slots ≤ ms) :
    vx_W p l e R s m args below meth c H locs cells slots (vx_MQ below Qc (XX D tys wf v A) args s mc ms A) (F0 m pc ls rest) q := by
  cases hF
  exact vx_out (fun x hx => absurd trivial (fun _ => ht0 x hx)) hlocks hcell hv hcl (fun t ht ha => ⟨(), h0, ⟨rfl, by rw [ht]; exact hP, va_K.moved ha hK, hD⟩, hS.F ht⟩) hS.2.2 hc hs
/-- throw new E("text") -/
theorem thr_hx {wf : Nat × S → va_W} {u v : Nat × S} {cls : String} (hF : some u = some v) (hcls : exN u.1 = cls) (h0 : ¬ u.1 = 0) (hK : va_K D vwCl tys s) (hP : va_P D vwCl (wf u) H) (hD : va_D A (wf u)) (hS : va_S A s.heap H locs) :
    ∀ t : State, s.vm.Alike t.vm → H.size ≤ t.heap.size → (∀ q : Nat, q < H.size → t.heap[q]? = H[q]?) → (XX D tys wf v A) cls s t := by
  cases hF
  intro t ha hz hk
  refine ⟨(), h0, ⟨hcls.symm, hP.kept (fun k q hq => hk _ (hP k q hq).lt), va_K.moved ha hK, hD⟩, Nat.le_trans hS.1 hz, fun q h1 h2 => ?_⟩
  rw [hk q (Nat.lt_of_lt_of_le h1 hS.1)]
  exact hS.2.1 q h1 h2
end FIN
section CALL
variable {p : Program} {l : Launch} {e : Env} {R : Room} {s : State} {m : MethodId} {args : Array Value} {below : List Frame} {meth : Method} {c : Code} {H : Heap} {locs : List Loc} {cells slots mc ms : Nat} {Q : State → Prop}
variable {pc : Nat} {ls : Array Slot} {D : va_G} {tys : List (ClassId × FieldType)} {A : Nat → Prop} {ws wc wr wn : va_W} {st0 rest : List Value} {a : Array Value}
theorem hE_call (hE : ENV A s s.heap) (hD : va_D A ws) (hS : va_S A s.heap H locs) (hA : ∀ q, s.heap.size ≤ q → A q) (isC : List Nat) (hC : isC.map (fun i => ws[i]?) = wc.map some) : ∀ U : State, U.heap = H → s.WarmedH U.vm → ENV (va_A wc H.size) U U.heap := fun U hU hW => by
  rw [hU]
  exact ENV.warm hW ((hE.kept hS.2.1).narrow (va_free hD hS hA isC hC))
theorem prS (hE : ENV A s s.heap) (hK : va_K D vwCl tys s) (hP : va_P D vwCl ws H) (hD : va_D A ws) (hS : va_S A s.heap H locs) (hA : ∀ q, s.heap.size ≤ q → A q) (isC : List Nat) (hC : isC.map (fun i => ws[i]?) = wc.map some) (hnC : va_nd isC = true) {As : List Value} : PreS s H (PC D tys wc As H.size) As :=
  ⟨PC_blind, fun U hU hW => ⟨rfl, by rw [hU], by rw [hU]; exact hP.sub isC (fm_of hC), va_K.moved hW.alike hK, (hD.sub isC hnC hC).weaken (fun _ _ _ _ => trivial), hE_call hE hD hS hA isC hC U hU hW⟩⟩
theorem prV (hE : ENV A s s.heap) (hK : va_K D vwCl tys s) (hP : va_P D vwCl ws H) (hD : va_D A ws) (hS : va_S A s.heap H locs) (hA : ∀ q, s.heap.size ≤ q → A q) (isC : List Nat) (hC : isC.map (fun i => ws[i]?) = wc.map some) (hnC : va_nd isC = true) {C : String} {b : Addr} {As : List Value} (ci q0 : Nat) {q : vw_C} {fs : List Value} (hc : vwCl[ci]? = some q) (hq : q.1 = C) (he : ws[q0]? = some (b, .inr (ci, fs))) : PreV s H C b (PC D tys wc (.ref b :: As) H.size) As :=
  ⟨PC_blind, by rw [← hq]; exact va_recv hK hP hc he, fun U hU hW => ⟨rfl, by rw [hU], by rw [hU]; exact hP.sub isC (fm_of hC), va_K.moved hW.alike hK, (hD.sub isC hnC hC).weaken (fun _ _ _ _ => trivial), hE_call hE hD hS hA isC hC U hU hW⟩⟩
theorem mix {w1 : va_W} {H1 : Heap} (hP : va_P D vwCl ws H) (hD : va_D A ws) (hS : va_S A s.heap H locs) (hA : ∀ q, s.heap.size ≤ q → A q) (isC isR pi : List Nat) (hC : isC.map (fun i => ws[i]?) = wc.map some) (hR : isR.map (fun i => ws[i]?) = wr.map some) (hn : va_nd isR = true) (hdis : ∀ i ∈ isR, i ∉ isC) (hpi : pi.map (fun i => (wr ++ w1)[i]?) = wn.map some) (hnp : va_nd pi = true)
    (hk : ∀ q : Nat, q < H.size → ¬ va_A wc H.size q → H1[q]? = H[q]?) (hP1 : va_P D vwCl w1 H1) (hD1 : va_D (va_A wc H.size) w1) : va_P D vwCl wn H1 ∧ va_D A wn := by
  obtain ⟨h1, h2⟩ := va_join hP hD isC isR hC hR hn hdis hk (va_free hD hS hA isC hC) hP1 hD1
  exact ⟨h1.sub pi (fm_of hpi), h2.sub pi hnp hpi⟩
theorem call_i {S : Type} {wf : Int32 × S → va_W} {v : Int32 × S} (hr : va_Run p l e R s m args below meth c H locs cells slots mc ms (F0 m pc ls st0) rest (QI D tys wf v (va_A wc H.size) a) (va_A wc H.size)) (hP : va_P D vwCl ws H) (hD : va_D A ws) (hS : va_S A s.heap H locs) (hA : ∀ q, s.heap.size ≤ q → A q) (isC isR pi : List Nat) (hC : isC.map (fun i => ws[i]?) = wc.map some) (hR : isR.map (fun i => ws[i]?) = wr.map some) (hn : va_nd isR = true) (hdis : ∀ i ∈ isR, i ∉ isC) (hpi : pi.map (fun i => (wr ++ wf v)[i]?) = wn.map some) (hnp : va_nd pi = true)
    (kk : ∀ (H1 : Heap) (locs1 : List Loc), va_P D vwCl wn H1 → va_D A wn → va_S A s.heap H1 locs1 → W p l e R s m args below meth c H1 locs1 (cells + mc) (slots + ms) Q (F0 m (pc + 3) ls (.int v.1 :: rest))) : W p l e R s m args below meth c H locs cells slots Q (F0 m pc ls st0) :=
  va_calli hr hS (fun q _ h => va_free hD hS hA isC hC q h) (va_free hD hS hA isC hC) (fun r u t H1 locs1 ht hvm hw hB hz hk hS1 => by
    obtain ⟨hP1, hK1, hD1⟩ := hB
    rw [ht] at hP1
    obtain ⟨h1, h2⟩ := mix hP hD hS hA isC isR pi hC hR hn hdis hpi hnp hk hP1 hD1
    rw [show r = v.1 from hw]
    exact kk H1 locs1 h1 h2 hS1)
theorem call_f {S : Type} {wf : UInt32 × S → va_W} {v : UInt32 × S} (hr : va_Run p l e R s m args below meth c H locs cells slots mc ms (F0 m pc ls st0) rest (QF D tys wf v (va_A wc H.size) a) (va_A wc H.size)) (hP : va_P D vwCl ws H) (hD : va_D A ws) (hS : va_S A s.heap H locs) (hA : ∀ q, s.heap.size ≤ q → A q) (isC isR pi : List Nat) (hC : isC.map (fun i => ws[i]?) = wc.map some) (hR : isR.map (fun i => ws[i]?) = wr.map some) (hn : va_nd isR = true) (hdis : ∀ i ∈ isR, i ∉ isC) (hpi : pi.map (fun i => (wr ++ wf v)[i]?) = wn.map some) (hnp : va_nd pi = true)
    (kk : ∀ (H1 : Heap) (locs1 : List Loc), va_P D vwCl wn H1 → va_D A wn → va_S A s.heap H1 locs1 → W p l e R s m args below meth c H1 locs1 (cells + mc) (slots + ms) Q (F0 m (pc + 3) ls (.float v.1 :: rest))) : W p l e R s m args below meth c H locs cells slots Q (F0 m pc ls st0) :=
  va_callf hr hS (fun q _ h => va_free hD hS hA isC hC q h) (va_free hD hS hA isC hC) (fun r u t H1 locs1 ht hvm hw hB hz hk hS1 => by
    obtain ⟨hP1, hK1, hD1⟩ := hB
    rw [ht] at hP1
    obtain ⟨h1, h2⟩ := mix hP hD hS hA isC isR pi hC hR hn hdis hpi hnp hk hP1 hD1
    rw [show r = v.1 from hw]
    exact kk H1 locs1 h1 h2 hS1)
theorem call_d {S : Type} {wf : UInt64 × S → va_W} {v : UInt64 × S} (hr : va_Run p l e R s m args below meth c H locs cells slots mc ms (F0 m pc ls st0) rest (QD D tys wf v (va_A wc H.size) a) (va_A wc H.size)) (hP : va_P D vwCl ws H) (hD : va_D A ws) (hS : va_S A s.heap H locs) (hA : ∀ q, s.heap.size ≤ q → A q) (isC isR pi : List Nat) (hC : isC.map (fun i => ws[i]?) = wc.map some) (hR : isR.map (fun i => ws[i]?) = wr.map some) (hn : va_nd isR = true) (hdis : ∀ i ∈ isR, i ∉ isC) (hpi : pi.map (fun i => (wr ++ wf v)[i]?) = wn.map some) (hnp : va_nd pi = true)
    (kk : ∀ (H1 : Heap) (locs1 : List Loc), va_P D vwCl wn H1 → va_D A wn → va_S A s.heap H1 locs1 → W p l e R s m args below meth c H1 locs1 (cells + mc) (slots + ms) Q (F0 m (pc + 3) ls (.double v.1 :: rest))) : W p l e R s m args below meth c H locs cells slots Q (F0 m pc ls st0) :=
  va_calld hr hS (fun q _ h => va_free hD hS hA isC hC q h) (va_free hD hS hA isC hC) (fun r u t H1 locs1 ht hvm hw hB hz hk hS1 => by
    obtain ⟨hP1, hK1, hD1⟩ := hB
    rw [ht] at hP1
    obtain ⟨h1, h2⟩ := mix hP hD hS hA isC isR pi hC hR hn hdis hpi hnp hk hP1 hD1
    rw [show r = v.1 from hw]
    exact kk H1 locs1 h1 h2 hS1)
theorem call_v {S : Type} {wf : S → va_W} {v : S} (hr : va_Run p l e R s m args below meth c H locs cells slots mc ms (F0 m pc ls st0) rest (QV D tys wf v (va_A wc H.size) a) (va_A wc H.size)) (hP : va_P D vwCl ws H) (hD : va_D A ws) (hS : va_S A s.heap H locs) (hA : ∀ q, s.heap.size ≤ q → A q) (isC isR pi : List Nat) (hC : isC.map (fun i => ws[i]?) = wc.map some) (hR : isR.map (fun i => ws[i]?) = wr.map some) (hn : va_nd isR = true) (hdis : ∀ i ∈ isR, i ∉ isC) (hpi : pi.map (fun i => (wr ++ wf v)[i]?) = wn.map some) (hnp : va_nd pi = true)
    (kk : ∀ (H1 : Heap) (locs1 : List Loc), va_P D vwCl wn H1 → va_D A wn → va_S A s.heap H1 locs1 → W p l e R s m args below meth c H1 locs1 (cells + mc) (slots + ms) Q (F0 m (pc + 3) ls rest)) : W p l e R s m args below meth c H locs cells slots Q (F0 m pc ls st0) :=
  va_callv hr hS (fun q _ h => va_free hD hS hA isC hC q h) (va_free hD hS hA isC hC) (fun u t H1 locs1 ht hvm hw hB hz hk hS1 => by
    obtain ⟨hP1, hK1, hD1⟩ := hB
    rw [ht] at hP1
    obtain ⟨h1, h2⟩ := mix hP hD hS hA isC isR pi hC hR hn hdis hpi hnp hk hP1 hD1
    exact kk H1 locs1 h1 h2 hS1)
theorem callX_i {S : Type} {wf : Nat × Int32 × S → va_W} {v : Nat × Int32 × S} (hr : vx_Run p l e R s m args below meth c H locs cells slots mc ms (F0 m pc ls st0) rest (XI D tys wf v (va_A wc H.size) a) (XX D tys wf v (va_A wc H.size)) (va_A wc H.size)) (hP : va_P D vwCl ws H) (hD : va_D A ws) (hS : va_S A s.heap H locs) (hA : ∀ q, s.heap.size ≤ q → A q) (isC isR pi : List Nat) (hC : isC.map (fun i => ws[i]?) = wc.map some) (hR : isR.map (fun i => ws[i]?) = wr.map some) (hn : va_nd isR = true) (hdis : ∀ i ∈ isR, i ∉ isC) (hpi : pi.map (fun i => (wr ++ wf v)[i]?) = wn.map some) (hnp : va_nd pi = true)
    (kk : v.1 = 0 → ∀ (H1 : Heap) (locs1 : List Loc), va_P D vwCl wn H1 → va_D A wn → va_S A s.heap H1 locs1 → W p l e R s m args below meth c H1 locs1 (cells + mc) (slots + ms) Q (F0 m (pc + 3) ls (.int v.2.1 :: rest)))
    (kx : ¬ v.1 = 0 → ∀ (q9 : Addr) (ce : Cell) (H1 : Heap) (locs1 : List Loc), va_P D vwCl wn H1 → va_D A wn → va_S A s.heap H1 locs1 → H1[q9]? = some ce → ce.vm = .none → s.vm.findClass (exN v.1) = some ce.cls → vx_W p l e R s m args below meth c H1 locs1 (cells + mc) (slots + ms) Q (F0 m pc ls rest) q9) : W p l e R s m args below meth c H locs cells slots Q (F0 m pc ls st0) :=
  vx_calli hr hS (fun q _ h => va_free hD hS hA isC hC q h) (va_free hD hS hA isC hC) (fun q _ h => va_free hD hS hA isC hC q h) (fun E ce q9 u t H1 locs1 ht hvm hw hB hz hk hS1 hce hv hcl => by
    obtain ⟨rfl, hP1, hK1, hD1⟩ := hB
    rw [ht] at hP1
    obtain ⟨h1, h2⟩ := mix hP hD hS hA isC isR pi hC hR hn hdis hpi hnp hk hP1 hD1
    exact kx hw q9 ce H1 locs1 h1 h2 hS1 hce hv hcl) (fun r u t H1 locs1 ht hvm hw hB hz hk hS1 => by
    obtain ⟨hP1, hK1, hD1⟩ := hB
    rw [ht] at hP1
    obtain ⟨h1, h2⟩ := mix hP hD hS hA isC isR pi hC hR hn hdis hpi hnp hk hP1 hD1
    rw [show r = v.2.1 from hw.2]
    exact kk hw.1 H1 locs1 h1 h2 hS1)
theorem callX_f {S : Type} {wf : Nat × UInt32 × S → va_W} {v : Nat × UInt32 × S} (hr : vx_Run p l e R s m args below meth c H locs cells slots mc ms (F0 m pc ls st0) rest (XF D tys wf v (va_A wc H.size) a) (XX D tys wf v (va_A wc H.size)) (va_A wc H.size)) (hP : va_P D vwCl ws H) (hD : va_D A ws) (hS : va_S A s.heap H locs) (hA : ∀ q, s.heap.size ≤ q → A q) (isC isR pi : List Nat) (hC : isC.map (fun i => ws[i]?) = wc.map some) (hR : isR.map (fun i => ws[i]?) = wr.map some) (hn : va_nd isR = true) (hdis : ∀ i ∈ isR, i ∉ isC) (hpi : pi.map (fun i => (wr ++ wf v)[i]?) = wn.map some) (hnp : va_nd pi = true)
    (kk : v.1 = 0 → ∀ (H1 : Heap) (locs1 : List Loc), va_P D vwCl wn H1 → va_D A wn → va_S A s.heap H1 locs1 → W p l e R s m args below meth c H1 locs1 (cells + mc) (slots + ms) Q (F0 m (pc + 3) ls (.float v.2.1 :: rest)))
    (kx : ¬ v.1 = 0 → ∀ (q9 : Addr) (ce : Cell) (H1 : Heap) (locs1 : List Loc), va_P D vwCl wn H1 → va_D A wn → va_S A s.heap H1 locs1 → H1[q9]? = some ce → ce.vm = .none → s.vm.findClass (exN v.1) = some ce.cls → vx_W p l e R s m args below meth c H1 locs1 (cells + mc) (slots + ms) Q (F0 m pc ls rest) q9) : W p l e R s m args below meth c H locs cells slots Q (F0 m pc ls st0) :=
  vx_callf hr hS (fun q _ h => va_free hD hS hA isC hC q h) (va_free hD hS hA isC hC) (fun q _ h => va_free hD hS hA isC hC q h) (fun E ce q9 u t H1 locs1 ht hvm hw hB hz hk hS1 hce hv hcl => by
    obtain ⟨rfl, hP1, hK1, hD1⟩ := hB
    rw [ht] at hP1
    obtain ⟨h1, h2⟩ := mix hP hD hS hA isC isR pi hC hR hn hdis hpi hnp hk hP1 hD1
    exact kx hw q9 ce H1 locs1 h1 h2 hS1 hce hv hcl) (fun r u t H1 locs1 ht hvm hw hB hz hk hS1 => by
    obtain ⟨hP1, hK1, hD1⟩ := hB
    rw [ht] at hP1
    obtain ⟨h1, h2⟩ := mix hP hD hS hA isC isR pi hC hR hn hdis hpi hnp hk hP1 hD1
    rw [show r = v.2.1 from hw.2]
    exact kk hw.1 H1 locs1 h1 h2 hS1)
theorem callX_d {S : Type} {wf : Nat × UInt64 × S → va_W} {v : Nat × UInt64 × S} (hr : vx_Run p l e R s m args below meth c H locs cells slots mc ms (F0 m pc ls st0) rest (XD D tys wf v (va_A wc H.size) a) (XX D tys wf v (va_A wc H.size)) (va_A wc H.size)) (hP : va_P D vwCl ws H) (hD : va_D A ws) (hS : va_S A s.heap H locs) (hA : ∀ q, s.heap.size ≤ q → A q) (isC isR pi : List Nat) (hC : isC.map (fun i => ws[i]?) = wc.map some) (hR : isR.map (fun i => ws[i]?) = wr.map some) (hn : va_nd isR = true) (hdis : ∀ i ∈ isR, i ∉ isC) (hpi : pi.map (fun i => (wr ++ wf v)[i]?) = wn.map some) (hnp : va_nd pi = true)
    (kk : v.1 = 0 → ∀ (H1 : Heap) (locs1 : List Loc), va_P D vwCl wn H1 → va_D A wn → va_S A s.heap H1 locs1 → W p l e R s m args below meth c H1 locs1 (cells + mc) (slots + ms) Q (F0 m (pc + 3) ls (.double v.2.1 :: rest)))
    (kx : ¬ v.1 = 0 → ∀ (q9 : Addr) (ce : Cell) (H1 : Heap) (locs1 : List Loc), va_P D vwCl wn H1 → va_D A wn → va_S A s.heap H1 locs1 → H1[q9]? = some ce → ce.vm = .none → s.vm.findClass (exN v.1) = some ce.cls → vx_W p l e R s m args below meth c H1 locs1 (cells + mc) (slots + ms) Q (F0 m pc ls rest) q9) : W p l e R s m args below meth c H locs cells slots Q (F0 m pc ls st0) :=
  vx_calld hr hS (fun q _ h => va_free hD hS hA isC hC q h) (va_free hD hS hA isC hC) (fun q _ h => va_free hD hS hA isC hC q h) (fun E ce q9 u t H1 locs1 ht hvm hw hB hz hk hS1 hce hv hcl => by
    obtain ⟨rfl, hP1, hK1, hD1⟩ := hB
    rw [ht] at hP1
    obtain ⟨h1, h2⟩ := mix hP hD hS hA isC isR pi hC hR hn hdis hpi hnp hk hP1 hD1
    exact kx hw q9 ce H1 locs1 h1 h2 hS1 hce hv hcl) (fun r u t H1 locs1 ht hvm hw hB hz hk hS1 => by
    obtain ⟨hP1, hK1, hD1⟩ := hB
    rw [ht] at hP1
    obtain ⟨h1, h2⟩ := mix hP hD hS hA isC isR pi hC hR hn hdis hpi hnp hk hP1 hD1
    rw [show r = v.2.1 from hw.2]
    exact kk hw.1 H1 locs1 h1 h2 hS1)
theorem callX_v {S : Type} {wf : Nat × S → va_W} {v : Nat × S} (hr : vx_Run p l e R s m args below meth c H locs cells slots mc ms (F0 m pc ls st0) rest (XV D tys wf v (va_A wc H.size) a) (XX D tys wf v (va_A wc H.size)) (va_A wc H.size)) (hP : va_P D vwCl ws H) (hD : va_D A ws) (hS : va_S A s.heap H locs) (hA : ∀ q, s.heap.size ≤ q → A q) (isC isR pi : List Nat) (hC : isC.map (fun i => ws[i]?) = wc.map some) (hR : isR.map (fun i => ws[i]?) = wr.map some) (hn : va_nd isR = true) (hdis : ∀ i ∈ isR, i ∉ isC) (hpi : pi.map (fun i => (wr ++ wf v)[i]?) = wn.map some) (hnp : va_nd pi = true)
    (kk : v.1 = 0 → ∀ (H1 : Heap) (locs1 : List Loc), va_P D vwCl wn H1 → va_D A wn → va_S A s.heap H1 locs1 → W p l e R s m args below meth c H1 locs1 (cells + mc) (slots + ms) Q (F0 m (pc + 3) ls rest))
    (kx : ¬ v.1 = 0 → ∀ (q9 : Addr) (ce : Cell) (H1 : Heap) (locs1 : List Loc), va_P D vwCl wn H1 → va_D A wn → va_S A s.heap H1 locs1 → H1[q9]? = some ce → ce.vm = .none → s.vm.findClass (exN v.1) = some ce.cls → vx_W p l e R s m args below meth c H1 locs1 (cells + mc) (slots + ms) Q (F0 m pc ls rest) q9) : W p l e R s m args below meth c H locs cells slots Q (F0 m pc ls st0) :=
  vx_callv hr hS (fun q _ h => va_free hD hS hA isC hC q h) (va_free hD hS hA isC hC) (fun q _ h => va_free hD hS hA isC hC q h) (fun E ce q9 u t H1 locs1 ht hvm hw hB hz hk hS1 hce hv hcl => by
    obtain ⟨rfl, hP1, hK1, hD1⟩ := hB
    rw [ht] at hP1
    obtain ⟨h1, h2⟩ := mix hP hD hS hA isC isR pi hC hR hn hdis hpi hnp hk hP1 hD1
    exact kx hw q9 ce H1 locs1 h1 h2 hS1 hce hv hcl) (fun u t H1 locs1 ht hvm hw hB hz hk hS1 => by
    obtain ⟨hP1, hK1, hD1⟩ := hB
    rw [ht] at hP1
    obtain ⟨h1, h2⟩ := mix hP hD hS hA isC isR pi hC hR hn hdis hpi hnp hk hP1 hD1
    exact kk hw H1 locs1 h1 h2 hS1)
end CALL
def FU : Nat := 4096
def jabs (x : Int32) : Int32 := if 0 ≤ x then x else 0 - x
def cpB (sp : Int32) (n0 : Nat) (dp : Int32) (n1 : Nat) (n : Int32) : Bool := decide (¬ sp < 0 ∧ ¬ dp < 0 ∧ ¬ n < 0 ∧ sp.toNatClampNeg + n.toNatClampNeg ≤ n0 ∧ dp.toNatClampNeg + n.toNatClampNeg ≤ n1)
theorem cpB_s {sp : Int32} {n0 : Nat} {dp : Int32} {n1 : Nat} {n : Int32} (h : cpB sp n0 dp n1 n = true) : ¬ sp < 0 ∧ ¬ dp < 0 ∧ ¬ n < 0 ∧ sp.toNatClampNeg + n.toNatClampNeg ≤ n0 ∧ dp.toNatClampNeg + n.toNatClampNeg ≤ n1 := of_decide_eq_true h
/-- nothing goes on out of a method that catches all -/
def XN : String → State → State → Prop := vx_X (fun (_ : Unit) => False) (fun _ _ _ => True) (fun _ => False)
theorem thr_at {A : Nat → Prop} {s : State} {H : Heap} {args : Array Value} {L : List Cond} (hE : ENV A s H) (h1 : ∀ w ∈ L.filter goodWord, w.before args s = true) (h2 : ∀ w ∈ L.filter (fun w => !goodWord w), w ∈ envDecl.map Cond.declares ++ envCast.map (fun c => Cond.castable c c)) : ∀ w ∈ L, w.before args s = true :=
  vx_hat h1 h2 (fun w hw => by
    rcases List.mem_append.mp hw with h | h
    · obtain ⟨q, hq, rfl⟩ := List.mem_map.mp h
      exact va_Nw.use rfl (hE.2.2.2.1 q hq)
    · obtain ⟨q, hq, rfl⟩ := List.mem_map.mp h
      exact va_Nw.use rfl (hE.2.2.2.2.1 q hq))
section SWI
variable {p : Program} {l : Launch} {e : Env} {R : Room} {s : State} {m : MethodId} {args : Array Value} {below : List Frame} {meth : Method} {c : Code} {H : Heap} {locs : List Loc} {cells slots : Nat} {Q : State → Prop}
variable {cc : ByteArray} {pc : Nat} {ls : Array Slot} {rest : List Value}
theorem tsw_d {dflt lo hi : Int} {offs : Array Int} {len : Nat} {x : Int32} {tgt : Nat} {ks : List Int} (hx : p.tables.exec = Jvm.exec) (hb : c.code = cc) (hdg : decode cc pc = .ok (.tableswitch dflt lo hi offs, len))
    (hall : ∀ j, j < offs.size → offs[j]? = some dflt ∨ (lo + (j : Int)) ∈ ks) (hsz : hi = lo + (offs.size : Int) - 1) (hks : ∀ k ∈ ks, ¬ x.toInt = k) (ht : (pc : Int) + dflt = (tgt : Int))
    (k : W p l e R s m args below meth c H locs cells slots Q (F0 m tgt ls rest)) : W p l e R s m args below meth c H locs cells slots Q (F0 m pc ls (.int x :: rest)) := by
  by_cases h1 : x.toInt < lo
  · exact lv_tableOut hx hb hdg (Or.inl h1) ht k
  · by_cases h2 : hi < x.toInt
    · exact lv_tableOut hx hb hdg (Or.inr h2) ht k
    · have hj : (x.toInt - lo).toNat < offs.size := by omega
      have ho : offs[(x.toInt - lo).toNat]? = some dflt := by
        rcases hall _ hj with h | h
        · exact h
        · exact absurd (show x.toInt = lo + (((x.toInt - lo).toNat : Nat) : Int) by omega) (hks _ h)
      exact lv_tableIn hx hb hdg h1 h2 ho ht k
end SWI
section CALLH
variable {p : Program} {l : Launch} {e : Env} {R : Room} {s : State} {m : MethodId} {args : Array Value} {below : List Frame} {meth : Method} {c : Code} {H : Heap} {locs : List Loc} {cells slots mc ms : Nat} {Q : State → Prop}
variable {pc : Nat} {ls : Array Slot} {D : va_G} {tys : List (ClassId × FieldType)} {A : Nat → Prop} {ws wc wr wn : va_W} {st0 rest : List Value} {a : Array Value}
theorem callH_i {S : Type} {wf : Int32 × S → va_W} {v : Int32 × S} (hr : vx_Run p l e R s m args below meth c H locs cells slots mc ms (F0 m pc ls st0) rest (QI D tys wf v (va_A wc H.size) a) XN (va_A wc H.size)) (hP : va_P D vwCl ws H) (hD : va_D A ws) (hS : va_S A s.heap H locs) (hA : ∀ q, s.heap.size ≤ q → A q) (isC isR pi : List Nat) (hC : isC.map (fun i => ws[i]?) = wc.map some) (hR : isR.map (fun i => ws[i]?) = wr.map some) (hn : va_nd isR = true) (hdis : ∀ i ∈ isR, i ∉ isC) (hpi : pi.map (fun i => (wr ++ wf v)[i]?) = wn.map some) (hnp : va_nd pi = true)
    (kk : ∀ (H1 : Heap) (locs1 : List Loc), va_P D vwCl wn H1 → va_D A wn → va_S A s.heap H1 locs1 → W p l e R s m args below meth c H1 locs1 (cells + mc) (slots + ms) Q (F0 m (pc + 3) ls (.int v.1 :: rest))) : W p l e R s m args below meth c H locs cells slots Q (F0 m pc ls st0) :=
  vx_calli hr hS (fun q _ h => va_free hD hS hA isC hC q h) (va_free hD hS hA isC hC) (fun q _ h => h.elim) (fun E ce q9 u t H1 locs1 ht hvm hw hB hz hk hS1 hce hv hcl => hw.elim) (fun r u t H1 locs1 ht hvm hw hB hz hk hS1 => by
    obtain ⟨hP1, hK1, hD1⟩ := hB
    rw [ht] at hP1
    obtain ⟨h1, h2⟩ := mix hP hD hS hA isC isR pi hC hR hn hdis hpi hnp hk hP1 hD1
    rw [show r = v.1 from hw]
    exact kk H1 locs1 h1 h2 hS1)
end CALLH
