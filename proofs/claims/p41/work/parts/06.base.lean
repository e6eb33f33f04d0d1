abbrev vwC7 : List vw_C := [(RX0, TX0, 1), (RX1, TX1, 6), (RX2, TX2, 3), (RX4, TX4, 2), (RX6, TX6, 2), (RX7, TX7, 11), (RJ4, TJ4, 4), (RJ0, TJ0, 4)]
/-! ===== what a pure function that answers tells of its parts ===== -/
theorem oT {α : Type} {c : Prop} {i : Decidable c} {a b r : α} (h : c) (e : (@ite α c i a b) = r) : a = r := by rw [if_pos h] at e; exact e
theorem oF {α : Type} {c : Prop} {i : Decidable c} {a b r : α} (h : ¬ c) (e : (@ite α c i a b) = r) : b = r := by rw [if_neg h] at e; exact e
theorem oG {α : Type} {b : Bool} {a : Option α} {r : α} (e : (bif b then a else none) = some r) : b = true ∧ a = some r := by
  cases b
  · exact nomatch e
  · exact ⟨rfl, e⟩
theorem oB {α β : Type} {o : Option α} {f : α → Option β} {r : β} (e : o.bind f = some r) : ∃ v, o = some v ∧ f v = some r := by
  cases o with
  | none => exact nomatch e
  | some v => exact ⟨v, rfl, e⟩
/-- an index that lies in a row of n -/
def inB (i : Int32) (n : Nat) : Bool := decide (0 ≤ i.toInt) && decide (i.toInt < (n : Int))
theorem inB_in {i : Int32} {n : Nat} (h : inB i n = true) : vp_in i n := by
  simp only [inB, Bool.and_eq_true, decide_eq_true_eq] at h
  exact vp_in_iff.mpr h
def nz (y : Int32) : Bool := decide (¬ y = 0)
theorem nz_ne {y : Int32} (h : nz y = true) : ¬ y = 0 := of_decide_eq_true h
def n64 (x : UInt64) : Bool := decide (x &&& 0x7fffffffffffffff ≤ 0x7ff0000000000000)
theorem n64_n {x : UInt64} (h : n64 x = true) : vf_n64 x := show x &&& 0x7fffffffffffffff ≤ 0x7ff0000000000000 from of_decide_eq_true h
def n32 (x : UInt32) : Bool := decide (x &&& 0x7fffffff ≤ 0x7f800000)
theorem n32_n {x : UInt32} (h : n32 x = true) : vf_n32 x := show x &&& 0x7fffffff ≤ 0x7f800000 from of_decide_eq_true h
/-- a value that a narrow type keeps -/
def okN (ty : FieldType) (x : Int32) : Bool := decide (narrow ty (.int x) = .int x ∧ fits ty (.int x) = true)
theorem okN_n {ty : FieldType} {x : Int32} (h : okN ty x = true) : narrow ty (.int x) = .int x := (of_decide_eq_true h).1
theorem okN_f {ty : FieldType} {x : Int32} (h : okN ty x = true) : fits ty (.int x) = true := (of_decide_eq_true h).2
def jmax (x y : Int32) : Int32 := if x < y then y else x
def jmin (x y : Int32) : Int32 := if y < x then y else x
/-! ===== the classes of arrays, by number; what a launch holds beside the worlds ===== -/
abbrev TY (K : Nat → ClassId) : List (ClassId × FieldType) := [(K 0, .int), (K 1, .int), (K 2, .char), (K 3, .int), (K 4, .char), (K 5, .int)]
abbrev TYG (K : Nat → ClassId) : List (ClassId × FieldType) := [(K 0, .int), (K 1, .int), (K 2, .char), (K 3, .int), (K 4, .char), (K 5, .int), (K 6, .long)]
abbrev TYB (K : Nat → ClassId) : List (ClassId × FieldType) := [(K 7, .byte)]
def exN : Nat → String
  | 1 => "java/lang/IndexOutOfBoundsException"
  | 2 => "java/lang/IllegalArgumentException"
  | 3 => "java/util/NoSuchElementException"
  | 4 => "java/lang/IllegalStateException"
  | 5 => "java/lang/ArithmeticException"
  | _ => "java/lang/UnsupportedOperationException"
def envNest : List (String × Nat × MethodName × String) := [("BarometerClub", 18, yX6_init, "BarometerClub"), ("BarometerClub", 25, yX2_init, "BarometerClub"), ("BarometerClub", 32, yX1_init, "BarometerClub"), ("BarometerClub", 39, yX4_init, "BarometerClub"), ("BarometerClub$Rules", 62, yX7_isHeight, "BarometerClub"), ("BarometerClub$Club", 37, yX7_isHeight, "BarometerClub"), ("BarometerClub$Rules", 109, yX7_signOf, "BarometerClub"), ("BarometerClub$Rules", 112, yX7_isChange, "BarometerClub"), ("BarometerClub$Rules", 115, yX7_isPressure, "BarometerClub"), ("BarometerClub$Judge", 48, yX7_held, "BarometerClub")]
def envDecl : List MethodName := [⟨"java/lang/RuntimeException", "<init>", "(Ljava/lang/String;)V"⟩, ⟨"java/lang/Exception", "<init>", "(Ljava/lang/String;)V"⟩, ⟨"java/lang/Throwable", "<init>", "(Ljava/lang/String;)V"⟩, ⟨"java/lang/IndexOutOfBoundsException", "<init>", "(Ljava/lang/String;)V"⟩]
def envCast : List String := ["java/lang/UnsupportedOperationException", "java/lang/IndexOutOfBoundsException", "java/lang/IllegalArgumentException", "java/util/NoSuchElementException", "java/lang/IllegalStateException", "java/lang/ArithmeticException"]
def envNc : List (String × String) := [("java/lang/IllegalArgumentException", "java/lang/IndexOutOfBoundsException"), ("java/util/NoSuchElementException", "java/lang/IndexOutOfBoundsException"), ("java/util/NoSuchElementException", "java/lang/IllegalArgumentException"), ("java/lang/UnsupportedOperationException", "java/lang/IllegalArgumentException")]
def envMsg : List (String × Nat × String) := [(RX7, 280, "the call is refused"), (RX7, 291, "there is no such member"), (RX7, 75, "what is not from 0 to 6"), (RX7, 104, "the member has not wagered"), (RX7, 113, "there is no such height"), (RX7, 118, "nobody owns the height"), (RX7, 133, "the change is not from -40 to 40"), (RX7, 142, "the member would win alone by no change"), (RX7, 151, "there is no free height that the member could pay for"), (RX7, 155, "there is no such measure"), (RX7, 160, "there is no such place"), (RX7, 162, "what is not from 0 to 5"), (RX7, 174, "the buffer contains 60 characters"), (RX7, 190, "the text has a fault"), (RX7, 220, "a command is refused"), (RX7, 226, "what is not from 0 to 2"), (RX7, 228, "nothing was refused"), (RX7, 240, "there is no such index"), (RX7, 249, "there are no members"), (RX7, 255, "nobody has wagered"), (RX7, 261, "what is not from 0 to 10"), (RX7, 263, "there is no change that can be undone"), (RX7, 272, "there is no snapshot")]
def envTxt : List (Nat × String × List Int32) := [(243, "d-", [100, 45]), (251, ";b0", [59, 98, 48]), (257, "m0>", [109, 48, 62]), (259, ";d+1", [59, 100, 43, 49]), (271, "q", [113]), (276, "d+0;d+0;x9", [100, 43, 48, 59, 100, 43, 48, 59, 120, 57]), (278, "d+0;s1&1", [100, 43, 48, 59, 115, 49, 38, 49])]
def envOnes : List Int32 := [48, 49, 50, 51, 52, 53, 54, 55, 56, 57, 48, 49, 50, 51, 52, 53, 54, 55, 56, 57, 48, 49, 50, 51, 52, 53, 54, 55, 56, 57, 48, 49, 50, 51, 52, 53, 54, 55, 56, 57, 48, 49, 50, 51, 52, 53, 54, 55, 56, 57, 48, 49, 50, 51, 52, 53, 54, 55, 56, 57, 48, 49, 50, 51, 52, 53, 54, 55, 56, 57, 48, 49, 50, 51, 52, 53, 54, 55, 56, 57, 48, 49, 50, 51, 52, 53, 54, 55, 56, 57, 48, 49, 50, 51, 52, 53, 54, 55, 56, 57]
def envTens : List Int32 := [48, 48, 48, 48, 48, 48, 48, 48, 48, 48, 49, 49, 49, 49, 49, 49, 49, 49, 49, 49, 50, 50, 50, 50, 50, 50, 50, 50, 50, 50, 51, 51, 51, 51, 51, 51, 51, 51, 51, 51, 52, 52, 52, 52, 52, 52, 52, 52, 52, 52, 53, 53, 53, 53, 53, 53, 53, 53, 53, 53, 54, 54, 54, 54, 54, 54, 54, 54, 54, 54, 55, 55, 55, 55, 55, 55, 55, 55, 55, 55, 56, 56, 56, 56, 56, 56, 56, 56, 56, 56, 57, 57, 57, 57, 57, 57, 57, 57, 57, 57]
def ENVD (n : String) (f : List Int32) (A : Nat → Prop) (U : State) (H : Heap) : Prop := ∃ t, va_Z "java/lang/Integer" n "[B" (.ref t) A U H ∧ va_T .byte t 100 (fun j => .int (f.getD j 0)) A U H
theorem ENVD.moved {n : String} {f : List Int32} {A : Nat → Prop} {u U : State} {H : Heap} (hv : u.vm.Alike U.vm) (h : ENVD n f A u H) : ENVD n f A U H := h.imp fun _ q => ⟨va_Z.moved hv q.1, va_T.moved hv q.2⟩
theorem ENVD.kept {n : String} {f : List Int32} {A : Nat → Prop} {U : State} {H H1 : Heap} (h : ENVD n f A U H) (hq : ∀ a : Nat, a < H.size → ¬ A a → H1[a]? = H[a]?) : ENVD n f A U H1 := h.imp fun _ q => ⟨q.1.kept hq, q.2.kept hq⟩
theorem ENVD.narrow {n : String} {f : List Int32} {A B : Nat → Prop} {U : State} {H : Heap} (h : ENVD n f A U H) (hAB : ∀ q, B q → A q) : ENVD n f B U H := h.imp fun _ q => ⟨q.1.narrow hAB, q.2.narrow hAB⟩
def ENV (A : Nat → Prop) (U : State) (H : Heap) : Prop :=
  vx_Zq Bundle.tN "UNASSIGNED_STACK" Bundle.steD A U H ∧ vx_Zq Bundle.tN "SUPPRESSED_SENTINEL" Bundle.listD A U H ∧
  (∀ q ∈ envNest, va_Nw (.methodLinkNest q.1 q.2.1 q.2.2.1 q.2.2.2) U) ∧ (∀ q ∈ envDecl, va_Nw (.declares q) U) ∧ (∀ q ∈ envCast, va_Nw (.castable q q) U) ∧ (∀ q ∈ envNc, va_Nc q.1 q.2 U) ∧
  (∀ q ∈ envMsg, ∃ a, vk_R q.1 q.2.1 q.2.2 a U) ∧ (∀ q ∈ envTxt, ∃ aK aV, vk_S 1 [q.2.2.length] [q.2.2] aK aV A U H ∧ vk_R RL q.1 q.2.1 (aK 0) U) ∧ va_Z "java/lang/String" "COMPACT_STRINGS" "Z" (.int 1) A U H ∧
  vx_Zq "jdk/internal/util/Preconditions" "SIOOBE_FORMATTER" "Ljava/util/function/BiFunction;" A U H ∧ ENVD "DigitOnes" envOnes A U H ∧ ENVD "DigitTens" envTens A U H
theorem ENV.warm {A : Nat → Prop} {s U : State} {H : Heap} (hW : s.WarmedH U.vm) (h : ENV A s H) : ENV A U H := by
  obtain ⟨h1, h2, h3, h4, h5, h6, h7, h8, h10, h11, h12, h13⟩ := h
  exact ⟨vx_Zq.moved hW.alike h1, vx_Zq.moved hW.alike h2, fun q hq => va_Nw.warmM hW (h3 q hq), fun q hq => va_Nw.warmD hW (h4 q hq), fun q hq => va_Nw.warmC hW (h5 q hq), fun q hq => va_Nc.moved hW.alike (h6 q hq),
    fun q hq => (h7 q hq).imp fun a ha => vk_R.warm hW ha, fun q hq => (h8 q hq).imp fun aK h => h.imp fun aV h => ⟨vk_S.moved hW.alike h.1, vk_R.warm hW h.2⟩, va_Z.moved hW.alike h10, vx_Zq.moved hW.alike h11, h12.moved hW.alike, h13.moved hW.alike⟩
theorem ENV.same {A : Nat → Prop} {s U : State} {H : Heap} (hv : U.vm = s.vm) (h : ENV A s H) : ENV A U H := by
  obtain ⟨h1, h2, h3, h4, h5, h6, h7, h8, h10, h11, h12, h13⟩ := h
  have ha : s.vm.Alike U.vm := by rw [hv]; exact Vm.Alike.refl _
  exact ⟨vx_Zq.moved ha h1, vx_Zq.moved ha h2, fun q hq => va_Nw.same rfl hv.symm (h3 q hq), fun q hq => va_Nw.same rfl hv.symm (h4 q hq), fun q hq => va_Nw.same rfl hv.symm (h5 q hq), fun q hq => va_Nc.moved ha (h6 q hq),
    fun q hq => (h7 q hq).imp fun a h => vk_R.same hv h, fun q hq => (h8 q hq).imp fun aK h => h.imp fun aV h => ⟨vk_S.moved ha h.1, vk_R.same hv h.2⟩, va_Z.moved ha h10, vx_Zq.moved ha h11, h12.moved ha, h13.moved ha⟩
theorem ENV.kept {A : Nat → Prop} {U : State} {H H1 : Heap} (h : ENV A U H) (hq : ∀ a : Nat, a < H.size → ¬ A a → H1[a]? = H[a]?) : ENV A U H1 := by
  obtain ⟨h1, h2, h3, h4, h5, h6, h7, h8, h10, h11, h12, h13⟩ := h
  exact ⟨h1.kept hq, h2.kept hq, h3, h4, h5, h6, h7, fun q hq2 => (h8 q hq2).imp fun aK h => h.imp fun aV h => ⟨h.1.kept hq, h.2⟩, h10.kept hq, h11.kept hq, h12.kept hq, h13.kept hq⟩
theorem ENV.narrow {A B : Nat → Prop} {U : State} {H : Heap} (h : ENV A U H) (hAB : ∀ q, B q → A q) : ENV B U H := by
  obtain ⟨h1, h2, h3, h4, h5, h6, h7, h8, h10, h11, h12, h13⟩ := h
  exact ⟨h1.narrow hAB, h2.narrow hAB, h3, h4, h5, h6, h7, fun q hq2 => (h8 q hq2).imp fun aK h => h.imp fun aV h => ⟨h.1.narrow hAB, h.2⟩, h10.narrow hAB, h11.narrow hAB, h12.narrow hAB, h13.narrow hAB⟩
/-! ===== contracts: the world before, the world behind ===== -/
def PC (D : va_G) (tys : List (ClassId × FieldType)) (wl : va_W) (av : List Value) (sz : Nat) : Array Value → State → Prop :=
  va_Pc av (fun U => U.heap.size = sz ∧ va_P D vwC7 wl U.heap ∧ va_K D vwC7 tys U ∧ va_D (fun _ => True) wl ∧ ENV (va_A wl sz) U U.heap)
theorem PC_blind {D : va_G} {tys : List (ClassId × FieldType)} {wl : va_W} {av : List Value} {sz : Nat} : FrameBlind (PC D tys wl av sz) := fun a U g mk q => by
  obtain ⟨q0, q1, qP, qK, qD, qE⟩ := q
  exact ⟨q0, q1, qP, va_K.moved (u := U) (U := U.calling g mk a) (Vm.Alike.refl U.vm) qK, qD, ENV.same (s := U) (U := U.calling g mk a) rfl qE⟩
def BT (D : va_G) (tys : List (ClassId × FieldType)) (A : Nat → Prop) (wl : va_W) (t : State) : Prop := va_P D vwC7 wl t.heap ∧ va_K D vwC7 tys t ∧ va_D A wl
def QI (D : va_G) (tys : List (ClassId × FieldType)) {S : Type} (wf : Int32 × S → va_W) (v : Int32 × S) (A : Nat → Prop) := va_Qi (fun (r : Int32) (_ : Unit) => r = v.1) (fun _ t => BT D tys A (wf v) t) A
def QF (D : va_G) (tys : List (ClassId × FieldType)) {S : Type} (wf : UInt32 × S → va_W) (v : UInt32 × S) (A : Nat → Prop) := va_Qf (fun (r : UInt32) (_ : Unit) => r = v.1) (fun _ t => BT D tys A (wf v) t) A
def QD (D : va_G) (tys : List (ClassId × FieldType)) {S : Type} (wf : UInt64 × S → va_W) (v : UInt64 × S) (A : Nat → Prop) := va_Qd (fun (r : UInt64) (_ : Unit) => r = v.1) (fun _ t => BT D tys A (wf v) t) A
def QL (D : va_G) (tys : List (ClassId × FieldType)) {S : Type} (wf : Int64 × S → va_W) (v : Int64 × S) (A : Nat → Prop) := va_Ql (fun (r : Int64) (_ : Unit) => r = v.1) (fun _ t => BT D tys A (wf v) t) A
def QR (D : va_G) (tys : List (ClassId × FieldType)) (a : Nat) {S : Type} (wf : S → va_W) (v : S) (A : Nat → Prop) := va_Qr (fun (_ : Unit) => True) (fun _ r t => r = a ∧ BT D tys A (wf v) t) A
def QV (D : va_G) (tys : List (ClassId × FieldType)) {S : Type} (wf : S → va_W) (v : S) (A : Nat → Prop) := va_Qv (fun (_ : Unit) => True) (fun _ t => BT D tys A (wf v) t) A
def XI (D : va_G) (tys : List (ClassId × FieldType)) {S : Type} (wf : Nat × Int32 × S → va_W) (v : Nat × Int32 × S) (A : Nat → Prop) := va_Qi (fun (r : Int32) (_ : Unit) => v.1 = 0 ∧ r = v.2.1) (fun _ t => BT D tys A (wf v) t) A
def XF (D : va_G) (tys : List (ClassId × FieldType)) {S : Type} (wf : Nat × UInt32 × S → va_W) (v : Nat × UInt32 × S) (A : Nat → Prop) := va_Qf (fun (r : UInt32) (_ : Unit) => v.1 = 0 ∧ r = v.2.1) (fun _ t => BT D tys A (wf v) t) A
def XD (D : va_G) (tys : List (ClassId × FieldType)) {S : Type} (wf : Nat × UInt64 × S → va_W) (v : Nat × UInt64 × S) (A : Nat → Prop) := va_Qd (fun (r : UInt64) (_ : Unit) => v.1 = 0 ∧ r = v.2.1) (fun _ t => BT D tys A (wf v) t) A
def XV (D : va_G) (tys : List (ClassId × FieldType)) {S : Type} (wf : Nat × S → va_W) (v : Nat × S) (A : Nat → Prop) := va_Qv (fun (_ : Unit) => v.1 = 0) (fun _ t => BT D tys A (wf v) t) A
def XX (D : va_G) (tys : List (ClassId × FieldType)) {S : Type} (wf : Nat × S → va_W) (v : Nat × S) (A : Nat → Prop) := vx_X (fun (_ : Unit) => ¬ v.1 = 0) (fun E _ t => E = exN v.1 ∧ BT D tys A (wf v) t) A
theorem fm_of {α : Type} {is : List Nat} {ws w : List α} (h : is.map (fun i => ws[i]?) = w.map some) : is.filterMap (fun i => ws[i]?) = w := by
  have e : is.filterMap (fun i => ws[i]?) = (is.map (fun i => ws[i]?)).filterMap id := by
    rw [List.filterMap_map]; rfl
  rw [e, h]
  induction w with
  | nil => rfl
  | cons a t ih => simp
section PRO
variable {l : Launch} {y : MethodName} {ws ws' : List Cond} {rm : Room} {D : va_G} {tys : List (ClassId × FieldType)} {wl : va_W} {av : List Value} {mc ms sz maxL : Nat} {cc : ByteArray} {ret : Option FieldType}
/-- a method's beginning -/
theorem pro {Qf : (Nat → Prop) → Array Value → State → Outcome → State → Prop} (hy : plainName y.cls = true) (hw : ws = Cond.code y cc maxL ret :: ws') (hsl : (lg_sl av).length ≤ maxL)
    (body : ∀ (p : Program) (e : Env) (s : State) (m : MethodId) (args : Array Value) (below : List Frame) (meth : Method) (c : Code), p.tables.exec = Jvm.exec → c.code = cc → meth.sig.returnType = ret → (∀ w ∈ ws, w.before args s = true) → s.vm.findClass y.cls = some m.cls → meth.locks = false → c.maxLocals = maxL → (y.name = "<init>" → meth.name = "<init>") → va_K D vwC7 tys s →
      ∀ A : Nat → Prop, (∀ q, s.heap.size ≤ q → A q) → ENV A s s.heap → va_P D vwC7 wl s.heap → va_D A wl → va_S A s.heap s.heap [] → ∀ ls, lv_has ls maxL (lv_args 0 av) →
        W p l e rm s m args below meth c s.heap [] 0 0 (MQ below (Qf A) args s mc ms A) (F0 m 0 ls [])) :
    Met l y ws rm (PC D tys wl av sz) (Qf (va_A wl sz)) mc ms (va_A wl sz) := by
  refine Met.ofW (cc := cc) (maxL := maxL) (ret := ret) hy hw ?_
  intro p e s m args below meth c s₁ B hml hv
  obtain ⟨rfl, hsz, hP, hK, hD0, hE⟩ := hv
  subst hsz
  have hD := hD0.self (sz := s.heap.size)
  have hl := lv_entry av (n := maxL) hsl
  rw [lg_entry_eq]
  exact body p e s m _ below meth c B.exec B.bytes B.returns (atoms_spec (ws := ws) B.pre) (findClass_of_methodNamed B.named) B.notSynchronized hml (fun h => (name_of_methodNamed B.named B.method).1.trans h) hK _ (fun q h => Or.inr h) hE hP hD va_S.rf _ hl
/-- a method that may throw -/
theorem proX {Qf : (Nat → Prop) → Array Value → State → Outcome → State → Prop} {XCf : (Nat → Prop) → String → State → State → Prop} (hy : plainName y.cls = true) (hw : ws = Cond.code y cc maxL ret :: ws') (hsl : (lg_sl av).length ≤ maxL)
    (body : ∀ (p : Program) (e : Env) (s : State) (m : MethodId) (args : Array Value) (below : List Frame) (meth : Method) (c : Code), p.tables.exec = Jvm.exec → c.code = cc → meth.sig.returnType = ret → (∀ w ∈ ws, w.before args s = true) → s.vm.findClass y.cls = some m.cls → meth.locks = false → c.maxLocals = maxL → (∀ x ∈ c.exceptionTable.toList, False) → va_K D vwC7 tys s →
      ∀ A : Nat → Prop, (∀ q, s.heap.size ≤ q → A q) → ENV A s s.heap → va_P D vwC7 wl s.heap → va_D A wl → va_S A s.heap s.heap [] → ∀ ls, lv_has ls maxL (lv_args 0 av) →
        W p l e rm s m args below meth c s.heap [] 0 0 (vx_MQ below (Qf A) (XCf A) args s mc ms A) (F0 m 0 ls [])) :
    vx_Met l y ws rm (PC D tys wl av sz) (Qf (va_A wl sz)) (XCf (va_A wl sz)) mc ms (va_A wl sz) := by
  refine vx_ofW (cc := cc) (maxL := maxL) (ret := ret) hy hw ?_
  intro p e s m args below meth c s₁ B hml ht hv
  obtain ⟨rfl, hsz, hP, hK, hD0, hE⟩ := hv
  subst hsz
  have hD := hD0.self (sz := s.heap.size)
  have hl := lv_entry av (n := maxL) hsl
  rw [lg_entry_eq]
  exact body p e s m _ below meth c B.exec B.bytes B.returns (atoms_spec (ws := ws) B.pre) (findClass_of_methodNamed B.named) B.notSynchronized hml ht hK _ (fun q h => Or.inr h) hE hP hD va_S.rf _ hl
/-- a method with a table of handlers -/
theorem proH {Qf : (Nat → Prop) → Array Value → State → Outcome → State → Prop} {XCf : (Nat → Prop) → String → State → State → Prop} {hh : List (Nat × Nat × Nat × Nat)} (hy : plainName y.cls = true) (hw : ws = Cond.codeWith y cc maxL ret hh :: ws') (hsl : (lg_sl av).length ≤ maxL)
    (body : ∀ (p : Program) (e : Env) (s : State) (m : MethodId) (args : Array Value) (below : List Frame) (meth : Method) (c : Code), p.tables.exec = Jvm.exec → c.code = cc → meth.sig.returnType = ret → (∀ w ∈ ws, w.before args s = true) → s.vm.findClass y.cls = some m.cls → meth.locks = false → c.maxLocals = maxL → c.exceptionTable.toList = tableOf hh → va_K D vwC7 tys s →
      ∀ A : Nat → Prop, (∀ q, s.heap.size ≤ q → A q) → ENV A s s.heap → va_P D vwC7 wl s.heap → va_D A wl → va_S A s.heap s.heap [] → ∀ ls, lv_has ls maxL (lv_args 0 av) →
        W p l e rm s m args below meth c s.heap [] 0 0 (vx_MQ below (Qf A) (XCf A) args s mc ms A) (F0 m 0 ls [])) :
    vx_Met l y ws rm (PC D tys wl av sz) (Qf (va_A wl sz)) (XCf (va_A wl sz)) mc ms (va_A wl sz) := by
  refine vx_ofWH (cc := cc) (maxL := maxL) (ret := ret) (hh := hh) hy hw ?_
  intro p e s m args below meth c s₁ B hml hv
  obtain ⟨rfl, hsz, hP, hK, hD0, hE⟩ := hv
  subst hsz
  have hD := hD0.self (sz := s.heap.size)
  have hl := lv_entry av (n := maxL) hsl
  have hts := atoms_spec (ws := ws) B.pre
  have htab : c.exceptionTable.toList = tableOf hh := vx_table (x := y) B (hts (Cond.codeWith y cc maxL ret hh) (by rw [hw]; exact List.mem_cons_self))
  rw [lg_entry_eq]
  exact body p e s m _ below meth c B.exec B.bytes B.returns hts (findClass_of_methodNamed B.named) B.notSynchronized hml htab hK _ (fun q h => Or.inr h) hE hP hD va_S.rf _ hl
end PRO
section FIN
variable {p : Program} {l : Launch} {e : Env} {R : Room} {s : State} {m : MethodId} {args : Array Value} {below : List Frame} {meth : Method} {c : Code} {H : Heap} {locs : List Loc} {cells slots mc ms : Nat}
variable {cc : ByteArray} {pc : Nat} {ls : Array Slot} {D : va_G} {tys : List (ClassId × FieldType)} {A : Nat → Prop} {S : Type}
theorem fin_i {wf : Int32 × S → va_W} {u v : Int32 × S} (hF : some u = some v) (hx : p.tables.exec = Jvm.exec) (hb : c.code = cc) (hr : meth.sig.returnType = some .int) (hlocks : meth.locks = false) (hK : va_K D vwC7 tys s) (hP : va_P D vwC7 (wf u) H) (hD : va_D A (wf u)) (hS : va_S A s.heap H locs) (hc : cells ≤ mc) (hs : slots ≤ ms) (d : decode cc pc = .ok (.ireturn, 1)) :
    W p l e R s m args below meth c H locs cells slots (MQ below (QI D tys wf v A) args s mc ms A) (F0 m pc ls [.int u.1]) := by
  cases hF
  exact W.widen hc hs (W.iret hx hb hr (fun t ht hW => ⟨⟨_, (), rfl, rfl, by rw [ht]; exact hP, va_K.moved hW.alike hK, hD⟩, hS.F ht⟩) hS.2.2 d hlocks)
theorem fin_z {ty : FieldType} {wf : Int32 × S → va_W} {u v : Int32 × S} (hF : some u = some v) (hn : narrow ty (.int u.1) = .int u.1) (hx : p.tables.exec = Jvm.exec) (hb : c.code = cc) (hr : meth.sig.returnType = some ty) (hlocks : meth.locks = false) (hK : va_K D vwC7 tys s) (hP : va_P D vwC7 (wf u) H) (hD : va_D A (wf u)) (hS : va_S A s.heap H locs) (hc : cells ≤ mc) (hs : slots ≤ ms) (d : decode cc pc = .ok (.ireturn, 1)) :
    W p l e R s m args below meth c H locs cells slots (MQ below (QI D tys wf v A) args s mc ms A) (F0 m pc ls [.int u.1]) := by
  cases hF
  exact W.widen hc hs (W.zret hx hb hr hn (fun t ht hW => ⟨⟨_, (), rfl, rfl, by rw [ht]; exact hP, va_K.moved hW.alike hK, hD⟩, hS.F ht⟩) hS.2.2 d hlocks)
theorem fin_f {wf : UInt32 × S → va_W} {u v : UInt32 × S} (hF : some u = some v) (hx : p.tables.exec = Jvm.exec) (hb : c.code = cc) (hr : meth.sig.returnType = some .float) (hlocks : meth.locks = false) (hK : va_K D vwC7 tys s) (hP : va_P D vwC7 (wf u) H) (hD : va_D A (wf u)) (hS : va_S A s.heap H locs) (hc : cells ≤ mc) (hs : slots ≤ ms) (d : decode cc pc = .ok (.freturn, 1)) :
    W p l e R s m args below meth c H locs cells slots (MQ below (QF D tys wf v A) args s mc ms A) (F0 m pc ls [.float u.1]) := by
  cases hF
  exact W.widen hc hs (W.fret hx hb hr (fun t ht hW => ⟨⟨_, (), rfl, rfl, by rw [ht]; exact hP, va_K.moved hW.alike hK, hD⟩, hS.F ht⟩) hS.2.2 d hlocks)
theorem fin_d {wf : UInt64 × S → va_W} {u v : UInt64 × S} (hF : some u = some v) (hx : p.tables.exec = Jvm.exec) (hb : c.code = cc) (hr : meth.sig.returnType = some .double) (hlocks : meth.locks = false) (hK : va_K D vwC7 tys s) (hP : va_P D vwC7 (wf u) H) (hD : va_D A (wf u)) (hS : va_S A s.heap H locs) (hc : cells ≤ mc) (hs : slots ≤ ms) (d : decode cc pc = .ok (.dreturn, 1)) :
    W p l e R s m args below meth c H locs cells slots (MQ below (QD D tys wf v A) args s mc ms A) (F0 m pc ls [.double u.1]) := by
  cases hF
  exact W.widen hc hs (W.dret hx hb hr (fun t ht hW => ⟨⟨_, (), rfl, rfl, by rw [ht]; exact hP, va_K.moved hW.alike hK, hD⟩, hS.F ht⟩) hS.2.2 d hlocks)
theorem fin_l {wf : Int64 × S → va_W} {u v : Int64 × S} (hF : some u = some v) (hx : p.tables.exec = Jvm.exec) (hb : c.code = cc) (hr : meth.sig.returnType = some .long) (hlocks : meth.locks = false) (hK : va_K D vwC7 tys s) (hP : va_P D vwC7 (wf u) H) (hD : va_D A (wf u)) (hS : va_S A s.heap H locs) (hc : cells ≤ mc) (hs : slots ≤ ms) (d : decode cc pc = .ok (.lreturn, 1)) :
    W p l e R s m args below meth c H locs cells slots (MQ below (QL D tys wf v A) args s mc ms A) (F0 m pc ls [.long u.1]) := by
  cases hF
  exact W.widen hc hs (W.lret hx hb hr (fun t ht hW => ⟨⟨_, (), rfl, rfl, by rw [ht]; exact hP, va_K.moved hW.alike hK, hD⟩, hS.F ht⟩) hS.2.2 d hlocks)
theorem fin_r {a : Nat} {rt : FieldType} {wf : S → va_W} {u v : S} (hF : some u = some v) (hx : p.tables.exec = Jvm.exec) (hb : c.code = cc) (hr : meth.sig.returnType = some rt) (hlocks : meth.locks = false) (hK : va_K D vwC7 tys s) (hP : va_P D vwC7 (wf u) H) (hD : va_D A (wf u)) (hS : va_S A s.heap H locs) (hc : cells ≤ mc) (hs : slots ≤ ms) (d : decode cc pc = .ok (.areturn, 1)) (hrt : (∃ n, rt = .object n) ∨ ∃ t, rt = .array t := by first | exact Or.inl ⟨_, rfl⟩ | exact Or.inr ⟨_, rfl⟩) :
    W p l e R s m args below meth c H locs cells slots (MQ below (QR D tys a wf v A) args s mc ms A) (F0 m pc ls [.ref a]) := by
  cases hF
  exact W.widen hc hs (W.aret hx hb hr hrt (Or.inr ⟨_, rfl⟩) (fun t ht hW => ⟨⟨(), _, rfl, trivial, rfl, by rw [ht]; exact hP, va_K.moved hW.alike hK, hD⟩, hS.F ht⟩) hS.2.2 d hlocks)
theorem fin_v {wf : S → va_W} {u v : S} (hF : some u = some v) (hx : p.tables.exec = Jvm.exec) (hb : c.code = cc) (hr : meth.sig.returnType = none) (hlocks : meth.locks = false) (hK : va_K D vwC7 tys s) (hP : va_P D vwC7 (wf u) H) (hD : va_D A (wf u)) (hS : va_S A s.heap H locs) (hc : cells ≤ mc) (hs : slots ≤ ms) (d : decode cc pc = .ok (.return_, 1)) :
    W p l e R s m args below meth c H locs cells slots (MQ below (QV D tys wf v A) args s mc ms A) (F0 m pc ls []) := by
  cases hF
  exact W.widen hc hs (W.vret hx hb hr (fun t ht hW => ⟨⟨(), rfl, trivial, by rw [ht]; exact hP, va_K.moved hW.alike hK, hD⟩, hS.F ht⟩) hS.2.2 d hlocks)
variable {XC : String → State → State → Prop}
theorem finX_i {wf : Nat × Int32 × S → va_W} {u v : Nat × Int32 × S} (hF : some u = some v) (h0 : u.1 = 0) (hx : p.tables.exec = Jvm.exec) (hb : c.code = cc) (hr : meth.sig.returnType = some .int) (hlocks : meth.locks = false) (hK : va_K D vwC7 tys s) (hP : va_P D vwC7 (wf u) H) (hD : va_D A (wf u)) (hS : va_S A s.heap H locs) (hc : cells ≤ mc) (hs : slots ≤ ms) (d : decode cc pc = .ok (.ireturn, 1)) :
    W p l e R s m args below meth c H locs cells slots (vx_MQ below (XI D tys wf v A) XC args s mc ms A) (F0 m pc ls [.int u.2.1]) := by
  cases hF
  exact W.widen hc hs (vx_ret (W.iret hx hb hr (fun t ht hW => ⟨⟨_, (), rfl, ⟨h0, rfl⟩, by rw [ht]; exact hP, va_K.moved hW.alike hK, hD⟩, hS.F ht⟩) hS.2.2 d hlocks))
theorem finX_z {ty : FieldType} {wf : Nat × Int32 × S → va_W} {u v : Nat × Int32 × S} (hF : some u = some v) (h0 : u.1 = 0) (hn : narrow ty (.int u.2.1) = .int u.2.1) (hx : p.tables.exec = Jvm.exec) (hb : c.code = cc) (hr : meth.sig.returnType = some ty) (hlocks : meth.locks = false) (hK : va_K D vwC7 tys s) (hP : va_P D vwC7 (wf u) H) (hD : va_D A (wf u)) (hS : va_S A s.heap H locs) (hc : cells ≤ mc) (hs : slots ≤ ms) (d : decode cc pc = .ok (.ireturn, 1)) :
    W p l e R s m args below meth c H locs cells slots (vx_MQ below (XI D tys wf v A) XC args s mc ms A) (F0 m pc ls [.int u.2.1]) := by
  cases hF
  exact W.widen hc hs (vx_ret (W.zret hx hb hr hn (fun t ht hW => ⟨⟨_, (), rfl, ⟨h0, rfl⟩, by rw [ht]; exact hP, va_K.moved hW.alike hK, hD⟩, hS.F ht⟩) hS.2.2 d hlocks))
theorem finX_f {wf : Nat × UInt32 × S → va_W} {u v : Nat × UInt32 × S} (hF : some u = some v) (h0 : u.1 = 0) (hx : p.tables.exec = Jvm.exec) (hb : c.code = cc) (hr : meth.sig.returnType = some .float) (hlocks : meth.locks = false) (hK : va_K D vwC7 tys s) (hP : va_P D vwC7 (wf u) H) (hD : va_D A (wf u)) (hS : va_S A s.heap H locs) (hc : cells ≤ mc) (hs : slots ≤ ms) (d : decode cc pc = .ok (.freturn, 1)) :
    W p l e R s m args below meth c H locs cells slots (vx_MQ below (XF D tys wf v A) XC args s mc ms A) (F0 m pc ls [.float u.2.1]) := by
  cases hF
  exact W.widen hc hs (vx_ret (W.fret hx hb hr (fun t ht hW => ⟨⟨_, (), rfl, ⟨h0, rfl⟩, by rw [ht]; exact hP, va_K.moved hW.alike hK, hD⟩, hS.F ht⟩) hS.2.2 d hlocks))
theorem finX_d {wf : Nat × UInt64 × S → va_W} {u v : Nat × UInt64 × S} (hF : some u = some v) (h0 : u.1 = 0) (hx : p.tables.exec = Jvm.exec) (hb : c.code = cc) (hr : meth.sig.returnType = some .double) (hlocks : meth.locks = false) (hK : va_K D vwC7 tys s) (hP : va_P D vwC7 (wf u) H) (hD : va_D A (wf u)) (hS : va_S A s.heap H locs) (hc : cells ≤ mc) (hs : slots ≤ ms) (d : decode cc pc = .ok (.dreturn, 1)) :
    W p l e R s m args below meth c H locs cells slots (vx_MQ below (XD D tys wf v A) XC args s mc ms A) (F0 m pc ls [.double u.2.1]) := by
  cases hF
  exact W.widen hc hs (vx_ret (W.dret hx hb hr (fun t ht hW => ⟨⟨_, (), rfl, ⟨h0, rfl⟩, by rw [ht]; exact hP, va_K.moved hW.alike hK, hD⟩, hS.F ht⟩) hS.2.2 d hlocks))
theorem finX_v {wf : Nat × S → va_W} {u v : Nat × S} (hF : some u = some v) (h0 : u.1 = 0) (hx : p.tables.exec = Jvm.exec) (hb : c.code = cc) (hr : meth.sig.returnType = none) (hlocks : meth.locks = false) (hK : va_K D vwC7 tys s) (hP : va_P D vwC7 (wf u) H) (hD : va_D A (wf u)) (hS : va_S A s.heap H locs) (hc : cells ≤ mc) (hs : slots ≤ ms) (d : decode cc pc = .ok (.return_, 1)) :
    W p l e R s m args below meth c H locs cells slots (vx_MQ below (XV D tys wf v A) XC args s mc ms A) (F0 m pc ls []) := by
  cases hF
  exact W.widen hc hs (vx_ret (W.vret hx hb hr (fun t ht hW => ⟨⟨(), rfl, h0, by rw [ht]; exact hP, va_K.moved hW.alike hK, hD⟩, hS.F ht⟩) hS.2.2 d hlocks))
/-- what a callee threw goes on to the caller -/
theorem out_x {Qc : Array Value → State → Outcome → State → Prop} {rest : List Value} {wf : Nat × S → va_W} {u v : Nat × S} {q : Addr} {ce : Cell} (hF : some u = some v) (h0 : ¬ u.1 = 0) (ht0 : ∀ x ∈ c.exceptionTable.toList, False) (hlocks : meth.locks = false) (hK : va_K D vwC7 tys s) (hP : va_P D vwC7 (wf u) H) (hD : va_D A (wf u)) (hS : va_S A s.heap H locs) (hcell : H[q]? = some ce) (hv : ce.vm = .none) (hcl : s.vm.findClass (exN u.1) = some ce.cls) (hc : cells ≤ mc) (hs : slots ≤ ms) :
    vx_W p l e R s m args below meth c H locs cells slots (vx_MQ below Qc (XX D tys wf v A) args s mc ms A) (F0 m pc ls rest) q := by
  cases hF
  exact vx_out (fun x hx => absurd trivial (fun _ => ht0 x hx)) hlocks hcell hv hcl (fun t ht ha => ⟨(), h0, ⟨rfl, by rw [ht]; exact hP, va_K.moved ha hK, hD⟩, hS.F ht⟩) hS.2.2 hc hs
/-- throw new E("text") -/
theorem thr_hx {wf : Nat × S → va_W} {u v : Nat × S} {cls : String} (hF : some u = some v) (hcls : exN u.1 = cls) (h0 : ¬ u.1 = 0) (hK : va_K D vwC7 tys s) (hP : va_P D vwC7 (wf u) H) (hD : va_D A (wf u)) (hS : va_S A s.heap H locs) :
    ∀ t : State, s.vm.Alike t.vm → H.size ≤ t.heap.size → (∀ q : Nat, q < H.size → t.heap[q]? = H[q]?) → (XX D tys wf v A) cls s t := by
  cases hF
  intro t ha hz hk
  refine ⟨(), h0, ⟨hcls.symm, hP.kept (fun k q hq => hk _ (hP k q hq).lt), va_K.moved ha hK, hD⟩, Nat.le_trans hS.1 hz, fun q h1 h2 => ?_⟩
  rw [hk q (Nat.lt_of_lt_of_le h1 hS.1)]
  exact hS.2.1 q h1 h2
end FIN
section CALL
variable {p : Program} {l : Launch} {e : Env} {R : Room} {s : State} {m : MethodId} {args : Array Value} {below : List Frame} {meth : Method} {c : Code} {H : Heap} {locs : List Loc} {cells slots mc ms : Nat} {Q : State → Prop}
variable {pc : Nat} {ls : Array Slot} {D : va_G} {tys : List (ClassId × FieldType)} {A : Nat → Prop} {ws wc wr wn : va_W} {st0 rest : List Value} {a : Array Value}
theorem hE_call (hE : ENV A s s.heap) (hD : va_D A ws) (hS : va_S A s.heap H locs) (hA : ∀ q, s.heap.size ≤ q → A q) (isC : List Nat) (hC : isC.map (fun i => ws[i]?) = wc.map some) : ∀ U : State, U.heap = H → s.WarmedH U.vm → ENV (va_A wc H.size) U U.heap := fun U hU hW => by
  rw [hU]
  exact ENV.warm hW ((hE.kept hS.2.1).narrow (va_free hD hS hA isC hC))
theorem prS (hE : ENV A s s.heap) (hK : va_K D vwC7 tys s) (hP : va_P D vwC7 ws H) (hD : va_D A ws) (hS : va_S A s.heap H locs) (hA : ∀ q, s.heap.size ≤ q → A q) (isC : List Nat) (hC : isC.map (fun i => ws[i]?) = wc.map some) (hnC : va_nd isC = true) {As : List Value} : PreS s H (PC D tys wc As H.size) As :=
  ⟨PC_blind, fun U hU hW => ⟨rfl, by rw [hU], by rw [hU]; exact hP.sub isC (fm_of hC), va_K.moved hW.alike hK, (hD.sub isC hnC hC).weaken (fun _ _ _ _ => trivial), hE_call hE hD hS hA isC hC U hU hW⟩⟩
theorem prV (hE : ENV A s s.heap) (hK : va_K D vwC7 tys s) (hP : va_P D vwC7 ws H) (hD : va_D A ws) (hS : va_S A s.heap H locs) (hA : ∀ q, s.heap.size ≤ q → A q) (isC : List Nat) (hC : isC.map (fun i => ws[i]?) = wc.map some) (hnC : va_nd isC = true) {C : String} {b : Addr} {As : List Value} (ci q0 : Nat) {q : vw_C} {fs : List Value} (hc : vwC7[ci]? = some q) (hq : q.1 = C) (he : ws[q0]? = some (b, .inr (ci, fs))) : PreV s H C b (PC D tys wc (.ref b :: As) H.size) As :=
  ⟨PC_blind, by rw [← hq]; exact va_recv hK hP hc he, fun U hU hW => ⟨rfl, by rw [hU], by rw [hU]; exact hP.sub isC (fm_of hC), va_K.moved hW.alike hK, (hD.sub isC hnC hC).weaken (fun _ _ _ _ => trivial), hE_call hE hD hS hA isC hC U hU hW⟩⟩
theorem mix {w1 : va_W} {H1 : Heap} (hP : va_P D vwC7 ws H) (hD : va_D A ws) (hS : va_S A s.heap H locs) (hA : ∀ q, s.heap.size ≤ q → A q) (isC isR pi : List Nat) (hC : isC.map (fun i => ws[i]?) = wc.map some) (hR : isR.map (fun i => ws[i]?) = wr.map some) (hn : va_nd isR = true) (hdis : ∀ i ∈ isR, i ∉ isC) (hpi : pi.map (fun i => (wr ++ w1)[i]?) = wn.map some) (hnp : va_nd pi = true)
    (hk : ∀ q : Nat, q < H.size → ¬ va_A wc H.size q → H1[q]? = H[q]?) (hP1 : va_P D vwC7 w1 H1) (hD1 : va_D (va_A wc H.size) w1) : va_P D vwC7 wn H1 ∧ va_D A wn := by
  obtain ⟨h1, h2⟩ := va_join hP hD isC isR hC hR hn hdis hk (va_free hD hS hA isC hC) hP1 hD1
  exact ⟨h1.sub pi (fm_of hpi), h2.sub pi hnp hpi⟩
theorem call_i {S : Type} {wf : Int32 × S → va_W} {v : Int32 × S} (hr : va_Run p l e R s m args below meth c H locs cells slots mc ms (F0 m pc ls st0) rest (QI D tys wf v (va_A wc H.size) a) (va_A wc H.size)) (hP : va_P D vwC7 ws H) (hD : va_D A ws) (hS : va_S A s.heap H locs) (hA : ∀ q, s.heap.size ≤ q → A q) (isC isR pi : List Nat) (hC : isC.map (fun i => ws[i]?) = wc.map some) (hR : isR.map (fun i => ws[i]?) = wr.map some) (hn : va_nd isR = true) (hdis : ∀ i ∈ isR, i ∉ isC) (hpi : pi.map (fun i => (wr ++ wf v)[i]?) = wn.map some) (hnp : va_nd pi = true)
    (kk : ∀ (H1 : Heap) (locs1 : List Loc), va_P D vwC7 wn H1 → va_D A wn → va_S A s.heap H1 locs1 → W p l e R s m args below meth c H1 locs1 (cells + mc) (slots + ms) Q (F0 m (pc + 3) ls (.int v.1 :: rest))) : W p l e R s m args below meth c H locs cells slots Q (F0 m pc ls st0) :=
  va_calli hr hS (fun q _ h => va_free hD hS hA isC hC q h) (va_free hD hS hA isC hC) (fun r u t H1 locs1 ht hvm hw hB hz hk hS1 => by
    obtain ⟨hP1, hK1, hD1⟩ := hB
    rw [ht] at hP1
    obtain ⟨h1, h2⟩ := mix hP hD hS hA isC isR pi hC hR hn hdis hpi hnp hk hP1 hD1
    rw [show r = v.1 from hw]
    exact kk H1 locs1 h1 h2 hS1)
theorem call_f {S : Type} {wf : UInt32 × S → va_W} {v : UInt32 × S} (hr : va_Run p l e R s m args below meth c H locs cells slots mc ms (F0 m pc ls st0) rest (QF D tys wf v (va_A wc H.size) a) (va_A wc H.size)) (hP : va_P D vwC7 ws H) (hD : va_D A ws) (hS : va_S A s.heap H locs) (hA : ∀ q, s.heap.size ≤ q → A q) (isC isR pi : List Nat) (hC : isC.map (fun i => ws[i]?) = wc.map some) (hR : isR.map (fun i => ws[i]?) = wr.map some) (hn : va_nd isR = true) (hdis : ∀ i ∈ isR, i ∉ isC) (hpi : pi.map (fun i => (wr ++ wf v)[i]?) = wn.map some) (hnp : va_nd pi = true)
    (kk : ∀ (H1 : Heap) (locs1 : List Loc), va_P D vwC7 wn H1 → va_D A wn → va_S A s.heap H1 locs1 → W p l e R s m args below meth c H1 locs1 (cells + mc) (slots + ms) Q (F0 m (pc + 3) ls (.float v.1 :: rest))) : W p l e R s m args below meth c H locs cells slots Q (F0 m pc ls st0) :=
  va_callf hr hS (fun q _ h => va_free hD hS hA isC hC q h) (va_free hD hS hA isC hC) (fun r u t H1 locs1 ht hvm hw hB hz hk hS1 => by
    obtain ⟨hP1, hK1, hD1⟩ := hB
    rw [ht] at hP1
    obtain ⟨h1, h2⟩ := mix hP hD hS hA isC isR pi hC hR hn hdis hpi hnp hk hP1 hD1
    rw [show r = v.1 from hw]
    exact kk H1 locs1 h1 h2 hS1)
theorem call_d {S : Type} {wf : UInt64 × S → va_W} {v : UInt64 × S} (hr : va_Run p l e R s m args below meth c H locs cells slots mc ms (F0 m pc ls st0) rest (QD D tys wf v (va_A wc H.size) a) (va_A wc H.size)) (hP : va_P D vwC7 ws H) (hD : va_D A ws) (hS : va_S A s.heap H locs) (hA : ∀ q, s.heap.size ≤ q → A q) (isC isR pi : List Nat) (hC : isC.map (fun i => ws[i]?) = wc.map some) (hR : isR.map (fun i => ws[i]?) = wr.map some) (hn : va_nd isR = true) (hdis : ∀ i ∈ isR, i ∉ isC) (hpi : pi.map (fun i => (wr ++ wf v)[i]?) = wn.map some) (hnp : va_nd pi = true)
    (kk : ∀ (H1 : Heap) (locs1 : List Loc), va_P D vwC7 wn H1 → va_D A wn → va_S A s.heap H1 locs1 → W p l e R s m args below meth c H1 locs1 (cells + mc) (slots + ms) Q (F0 m (pc + 3) ls (.double v.1 :: rest))) : W p l e R s m args below meth c H locs cells slots Q (F0 m pc ls st0) :=
  va_calld hr hS (fun q _ h => va_free hD hS hA isC hC q h) (va_free hD hS hA isC hC) (fun r u t H1 locs1 ht hvm hw hB hz hk hS1 => by
    obtain ⟨hP1, hK1, hD1⟩ := hB
    rw [ht] at hP1
    obtain ⟨h1, h2⟩ := mix hP hD hS hA isC isR pi hC hR hn hdis hpi hnp hk hP1 hD1
    rw [show r = v.1 from hw]
    exact kk H1 locs1 h1 h2 hS1)
theorem call_l {S : Type} {wf : Int64 × S → va_W} {v : Int64 × S} (hr : va_Run p l e R s m args below meth c H locs cells slots mc ms (F0 m pc ls st0) rest (QL D tys wf v (va_A wc H.size) a) (va_A wc H.size)) (hP : va_P D vwC7 ws H) (hD : va_D A ws) (hS : va_S A s.heap H locs) (hA : ∀ q, s.heap.size ≤ q → A q) (isC isR pi : List Nat) (hC : isC.map (fun i => ws[i]?) = wc.map some) (hR : isR.map (fun i => ws[i]?) = wr.map some) (hn : va_nd isR = true) (hdis : ∀ i ∈ isR, i ∉ isC) (hpi : pi.map (fun i => (wr ++ wf v)[i]?) = wn.map some) (hnp : va_nd pi = true)
    (kk : ∀ (H1 : Heap) (locs1 : List Loc), va_P D vwC7 wn H1 → va_D A wn → va_S A s.heap H1 locs1 → W p l e R s m args below meth c H1 locs1 (cells + mc) (slots + ms) Q (F0 m (pc + 3) ls (.long v.1 :: rest))) : W p l e R s m args below meth c H locs cells slots Q (F0 m pc ls st0) :=
  va_calll hr hS (fun q _ h => va_free hD hS hA isC hC q h) (va_free hD hS hA isC hC) (fun r u t H1 locs1 ht hvm hw hB hz hk hS1 => by
    obtain ⟨hP1, hK1, hD1⟩ := hB
    rw [ht] at hP1
    obtain ⟨h1, h2⟩ := mix hP hD hS hA isC isR pi hC hR hn hdis hpi hnp hk hP1 hD1
    rw [show r = v.1 from hw]
    exact kk H1 locs1 h1 h2 hS1)
theorem call_v {S : Type} {wf : S → va_W} {v : S} (hr : va_Run p l e R s m args below meth c H locs cells slots mc ms (F0 m pc ls st0) rest (QV D tys wf v (va_A wc H.size) a) (va_A wc H.size)) (hP : va_P D vwC7 ws H) (hD : va_D A ws) (hS : va_S A s.heap H locs) (hA : ∀ q, s.heap.size ≤ q → A q) (isC isR pi : List Nat) (hC : isC.map (fun i => ws[i]?) = wc.map some) (hR : isR.map (fun i => ws[i]?) = wr.map some) (hn : va_nd isR = true) (hdis : ∀ i ∈ isR, i ∉ isC) (hpi : pi.map (fun i => (wr ++ wf v)[i]?) = wn.map some) (hnp : va_nd pi = true)
    (kk : ∀ (H1 : Heap) (locs1 : List Loc), va_P D vwC7 wn H1 → va_D A wn → va_S A s.heap H1 locs1 → W p l e R s m args below meth c H1 locs1 (cells + mc) (slots + ms) Q (F0 m (pc + 3) ls rest)) : W p l e R s m args below meth c H locs cells slots Q (F0 m pc ls st0) :=
  va_callv hr hS (fun q _ h => va_free hD hS hA isC hC q h) (va_free hD hS hA isC hC) (fun u t H1 locs1 ht hvm hw hB hz hk hS1 => by
    obtain ⟨hP1, hK1, hD1⟩ := hB
    rw [ht] at hP1
    obtain ⟨h1, h2⟩ := mix hP hD hS hA isC isR pi hC hR hn hdis hpi hnp hk hP1 hD1
    exact kk H1 locs1 h1 h2 hS1)
theorem call_r {S : Type} {ra : Nat} {wf : S → va_W} {v : S} (hr : va_Run p l e R s m args below meth c H locs cells slots mc ms (F0 m pc ls st0) rest (QR D tys ra wf v (va_A wc H.size) a) (va_A wc H.size)) (hP : va_P D vwC7 ws H) (hD : va_D A ws) (hS : va_S A s.heap H locs) (hA : ∀ q, s.heap.size ≤ q → A q) (isC isR pi : List Nat) (hC : isC.map (fun i => ws[i]?) = wc.map some) (hR : isR.map (fun i => ws[i]?) = wr.map some) (hn : va_nd isR = true) (hdis : ∀ i ∈ isR, i ∉ isC) (hpi : pi.map (fun i => (wr ++ wf v)[i]?) = wn.map some) (hnp : va_nd pi = true)
    (kk : ∀ (H1 : Heap) (locs1 : List Loc), va_P D vwC7 wn H1 → va_D A wn → va_S A s.heap H1 locs1 → W p l e R s m args below meth c H1 locs1 (cells + mc) (slots + ms) Q (F0 m (pc + 3) ls (.ref ra :: rest))) : W p l e R s m args below meth c H locs cells slots Q (F0 m pc ls st0) :=
  va_callr hr hS (fun q _ h => va_free hD hS hA isC hC q h) (va_free hD hS hA isC hC) (fun u r t H1 locs1 ht hvm hw hB hz hk hS1 => by
    obtain ⟨rfl, hP1, hK1, hD1⟩ := hB
    rw [ht] at hP1
    obtain ⟨h1, h2⟩ := mix hP hD hS hA isC isR pi hC hR hn hdis hpi hnp hk hP1 hD1
    exact kk H1 locs1 h1 h2 hS1)
theorem callX_i {S : Type} {wf : Nat × Int32 × S → va_W} {v : Nat × Int32 × S} (hr : vx_Run p l e R s m args below meth c H locs cells slots mc ms (F0 m pc ls st0) rest (XI D tys wf v (va_A wc H.size) a) (XX D tys wf v (va_A wc H.size)) (va_A wc H.size)) (hP : va_P D vwC7 ws H) (hD : va_D A ws) (hS : va_S A s.heap H locs) (hA : ∀ q, s.heap.size ≤ q → A q) (isC isR pi : List Nat) (hC : isC.map (fun i => ws[i]?) = wc.map some) (hR : isR.map (fun i => ws[i]?) = wr.map some) (hn : va_nd isR = true) (hdis : ∀ i ∈ isR, i ∉ isC) (hpi : pi.map (fun i => (wr ++ wf v)[i]?) = wn.map some) (hnp : va_nd pi = true)
    (kk : v.1 = 0 → ∀ (H1 : Heap) (locs1 : List Loc), va_P D vwC7 wn H1 → va_D A wn → va_S A s.heap H1 locs1 → W p l e R s m args below meth c H1 locs1 (cells + mc) (slots + ms) Q (F0 m (pc + 3) ls (.int v.2.1 :: rest)))
    (kx : ¬ v.1 = 0 → ∀ (q9 : Addr) (ce : Cell) (H1 : Heap) (locs1 : List Loc), va_P D vwC7 wn H1 → va_D A wn → va_S A s.heap H1 locs1 → H1[q9]? = some ce → ce.vm = .none → s.vm.findClass (exN v.1) = some ce.cls → vx_W p l e R s m args below meth c H1 locs1 (cells + mc) (slots + ms) Q (F0 m pc ls rest) q9) : W p l e R s m args below meth c H locs cells slots Q (F0 m pc ls st0) :=
  vx_calli hr hS (fun q _ h => va_free hD hS hA isC hC q h) (va_free hD hS hA isC hC) (fun q _ h => va_free hD hS hA isC hC q h) (fun E ce q9 u t H1 locs1 ht hvm hw hB hz hk hS1 hce hv hcl => by
    obtain ⟨rfl, hP1, hK1, hD1⟩ := hB
    rw [ht] at hP1
    obtain ⟨h1, h2⟩ := mix hP hD hS hA isC isR pi hC hR hn hdis hpi hnp hk hP1 hD1
    exact kx hw q9 ce H1 locs1 h1 h2 hS1 hce hv hcl) (fun r u t H1 locs1 ht hvm hw hB hz hk hS1 => by
    obtain ⟨hP1, hK1, hD1⟩ := hB
    rw [ht] at hP1
    obtain ⟨h1, h2⟩ := mix hP hD hS hA isC isR pi hC hR hn hdis hpi hnp hk hP1 hD1
    rw [show r = v.2.1 from hw.2]
    exact kk hw.1 H1 locs1 h1 h2 hS1)
theorem callX_f {S : Type} {wf : Nat × UInt32 × S → va_W} {v : Nat × UInt32 × S} (hr : vx_Run p l e R s m args below meth c H locs cells slots mc ms (F0 m pc ls st0) rest (XF D tys wf v (va_A wc H.size) a) (XX D tys wf v (va_A wc H.size)) (va_A wc H.size)) (hP : va_P D vwC7 ws H) (hD : va_D A ws) (hS : va_S A s.heap H locs) (hA : ∀ q, s.heap.size ≤ q → A q) (isC isR pi : List Nat) (hC : isC.map (fun i => ws[i]?) = wc.map some) (hR : isR.map (fun i => ws[i]?) = wr.map some) (hn : va_nd isR = true) (hdis : ∀ i ∈ isR, i ∉ isC) (hpi : pi.map (fun i => (wr ++ wf v)[i]?) = wn.map some) (hnp : va_nd pi = true)
    (kk : v.1 = 0 → ∀ (H1 : Heap) (locs1 : List Loc), va_P D vwC7 wn H1 → va_D A wn → va_S A s.heap H1 locs1 → W p l e R s m args below meth c H1 locs1 (cells + mc) (slots + ms) Q (F0 m (pc + 3) ls (.float v.2.1 :: rest)))
    (kx : ¬ v.1 = 0 → ∀ (q9 : Addr) (ce : Cell) (H1 : Heap) (locs1 : List Loc), va_P D vwC7 wn H1 → va_D A wn → va_S A s.heap H1 locs1 → H1[q9]? = some ce → ce.vm = .none → s.vm.findClass (exN v.1) = some ce.cls → vx_W p l e R s m args below meth c H1 locs1 (cells + mc) (slots + ms) Q (F0 m pc ls rest) q9) : W p l e R s m args below meth c H locs cells slots Q (F0 m pc ls st0) :=
  vx_callf hr hS (fun q _ h => va_free hD hS hA isC hC q h) (va_free hD hS hA isC hC) (fun q _ h => va_free hD hS hA isC hC q h) (fun E ce q9 u t H1 locs1 ht hvm hw hB hz hk hS1 hce hv hcl => by
    obtain ⟨rfl, hP1, hK1, hD1⟩ := hB
    rw [ht] at hP1
    obtain ⟨h1, h2⟩ := mix hP hD hS hA isC isR pi hC hR hn hdis hpi hnp hk hP1 hD1
    exact kx hw q9 ce H1 locs1 h1 h2 hS1 hce hv hcl) (fun r u t H1 locs1 ht hvm hw hB hz hk hS1 => by
    obtain ⟨hP1, hK1, hD1⟩ := hB
    rw [ht] at hP1
    obtain ⟨h1, h2⟩ := mix hP hD hS hA isC isR pi hC hR hn hdis hpi hnp hk hP1 hD1
    rw [show r = v.2.1 from hw.2]
    exact kk hw.1 H1 locs1 h1 h2 hS1)
theorem callX_d {S : Type} {wf : Nat × UInt64 × S → va_W} {v : Nat × UInt64 × S} (hr : vx_Run p l e R s m args below meth c H locs cells slots mc ms (F0 m pc ls st0) rest (XD D tys wf v (va_A wc H.size) a) (XX D tys wf v (va_A wc H.size)) (va_A wc H.size)) (hP : va_P D vwC7 ws H) (hD : va_D A ws) (hS : va_S A s.heap H locs) (hA : ∀ q, s.heap.size ≤ q → A q) (isC isR pi : List Nat) (hC : isC.map (fun i => ws[i]?) = wc.map some) (hR : isR.map (fun i => ws[i]?) = wr.map some) (hn : va_nd isR = true) (hdis : ∀ i ∈ isR, i ∉ isC) (hpi : pi.map (fun i => (wr ++ wf v)[i]?) = wn.map some) (hnp : va_nd pi = true)
    (kk : v.1 = 0 → ∀ (H1 : Heap) (locs1 : List Loc), va_P D vwC7 wn H1 → va_D A wn → va_S A s.heap H1 locs1 → W p l e R s m args below meth c H1 locs1 (cells + mc) (slots + ms) Q (F0 m (pc + 3) ls (.double v.2.1 :: rest)))
    (kx : ¬ v.1 = 0 → ∀ (q9 : Addr) (ce : Cell) (H1 : Heap) (locs1 : List Loc), va_P D vwC7 wn H1 → va_D A wn → va_S A s.heap H1 locs1 → H1[q9]? = some ce → ce.vm = .none → s.vm.findClass (exN v.1) = some ce.cls → vx_W p l e R s m args below meth c H1 locs1 (cells + mc) (slots + ms) Q (F0 m pc ls rest) q9) : W p l e R s m args below meth c H locs cells slots Q (F0 m pc ls st0) :=
  vx_calld hr hS (fun q _ h => va_free hD hS hA isC hC q h) (va_free hD hS hA isC hC) (fun q _ h => va_free hD hS hA isC hC q h) (fun E ce q9 u t H1 locs1 ht hvm hw hB hz hk hS1 hce hv hcl => by
    obtain ⟨rfl, hP1, hK1, hD1⟩ := hB
    rw [ht] at hP1
    obtain ⟨h1, h2⟩ := mix hP hD hS hA isC isR pi hC hR hn hdis hpi hnp hk hP1 hD1
    exact kx hw q9 ce H1 locs1 h1 h2 hS1 hce hv hcl) (fun r u t H1 locs1 ht hvm hw hB hz hk hS1 => by
    obtain ⟨hP1, hK1, hD1⟩ := hB
    rw [ht] at hP1
    obtain ⟨h1, h2⟩ := mix hP hD hS hA isC isR pi hC hR hn hdis hpi hnp hk hP1 hD1
    rw [show r = v.2.1 from hw.2]
    exact kk hw.1 H1 locs1 h1 h2 hS1)
theorem callX_v {S : Type} {wf : Nat × S → va_W} {v : Nat × S} (hr : vx_Run p l e R s m args below meth c H locs cells slots mc ms (F0 m pc ls st0) rest (XV D tys wf v (va_A wc H.size) a) (XX D tys wf v (va_A wc H.size)) (va_A wc H.size)) (hP : va_P D vwC7 ws H) (hD : va_D A ws) (hS : va_S A s.heap H locs) (hA : ∀ q, s.heap.size ≤ q → A q) (isC isR pi : List Nat) (hC : isC.map (fun i => ws[i]?) = wc.map some) (hR : isR.map (fun i => ws[i]?) = wr.map some) (hn : va_nd isR = true) (hdis : ∀ i ∈ isR, i ∉ isC) (hpi : pi.map (fun i => (wr ++ wf v)[i]?) = wn.map some) (hnp : va_nd pi = true)
    (kk : v.1 = 0 → ∀ (H1 : Heap) (locs1 : List Loc), va_P D vwC7 wn H1 → va_D A wn → va_S A s.heap H1 locs1 → W p l e R s m args below meth c H1 locs1 (cells + mc) (slots + ms) Q (F0 m (pc + 3) ls rest))
    (kx : ¬ v.1 = 0 → ∀ (q9 : Addr) (ce : Cell) (H1 : Heap) (locs1 : List Loc), va_P D vwC7 wn H1 → va_D A wn → va_S A s.heap H1 locs1 → H1[q9]? = some ce → ce.vm = .none → s.vm.findClass (exN v.1) = some ce.cls → vx_W p l e R s m args below meth c H1 locs1 (cells + mc) (slots + ms) Q (F0 m pc ls rest) q9) : W p l e R s m args below meth c H locs cells slots Q (F0 m pc ls st0) :=
  vx_callv hr hS (fun q _ h => va_free hD hS hA isC hC q h) (va_free hD hS hA isC hC) (fun q _ h => va_free hD hS hA isC hC q h) (fun E ce q9 u t H1 locs1 ht hvm hw hB hz hk hS1 hce hv hcl => by
    obtain ⟨rfl, hP1, hK1, hD1⟩ := hB
    rw [ht] at hP1
    obtain ⟨h1, h2⟩ := mix hP hD hS hA isC isR pi hC hR hn hdis hpi hnp hk hP1 hD1
    exact kx hw q9 ce H1 locs1 h1 h2 hS1 hce hv hcl) (fun u t H1 locs1 ht hvm hw hB hz hk hS1 => by
    obtain ⟨hP1, hK1, hD1⟩ := hB
    rw [ht] at hP1
    obtain ⟨h1, h2⟩ := mix hP hD hS hA isC isR pi hC hR hn hdis hpi hnp hk hP1 hD1
    exact kk hw H1 locs1 h1 h2 hS1)
end CALL
def FU : Nat := 4096
def jabs (x : Int32) : Int32 := if 0 ≤ x then x else 0 - x
def cpB (sp : Int32) (n0 : Nat) (dp : Int32) (n1 : Nat) (n : Int32) : Bool := decide (¬ sp < 0 ∧ ¬ dp < 0 ∧ ¬ n < 0 ∧ sp.toNatClampNeg + n.toNatClampNeg ≤ n0 ∧ dp.toNatClampNeg + n.toNatClampNeg ≤ n1)
theorem cpB_s {sp : Int32} {n0 : Nat} {dp : Int32} {n1 : Nat} {n : Int32} (h : cpB sp n0 dp n1 n = true) : ¬ sp < 0 ∧ ¬ dp < 0 ∧ ¬ n < 0 ∧ sp.toNatClampNeg + n.toNatClampNeg ≤ n0 ∧ dp.toNatClampNeg + n.toNatClampNeg ≤ n1 := of_decide_eq_true h
def cpT (sp : Int32) (n0 : Nat) (dp : Int32) (n1 : Nat) (n : Int32) (t : List Int32) : Bool := decide (¬ sp < 0 ∧ ¬ dp < 0 ∧ ¬ n < 0 ∧ sp.toNatClampNeg + n.toNatClampNeg ≤ n0 ∧ dp.toNatClampNeg + n.toNatClampNeg ≤ n1) && t.all (fun x => fits .byte (.int x))
theorem cpT_s {sp : Int32} {n0 : Nat} {dp : Int32} {n1 : Nat} {n : Int32} {t : List Int32} (h : cpT sp n0 dp n1 n t = true) : ¬ sp < 0 ∧ ¬ dp < 0 ∧ ¬ n < 0 ∧ sp.toNatClampNeg + n.toNatClampNeg ≤ n0 ∧ dp.toNatClampNeg + n.toNatClampNeg ≤ n1 ∧ ∀ j, fits .byte (.int (t.getD j 0)) = true := by
  obtain ⟨h1, h2⟩ := (Bool.and_eq_true _ _).mp h
  obtain ⟨a, b, c, d, e⟩ := of_decide_eq_true h1
  refine ⟨a, b, c, d, e, fun j => ?_⟩
  by_cases hj : j < t.length
  · rw [List.getD_eq_getElem?_getD, List.getElem?_eq_getElem hj]
    exact List.all_eq_true.mp h2 _ (List.getElem_mem hj)
  · rw [List.getD_eq_getElem?_getD, List.getElem?_eq_none (Nat.not_lt.mp hj)]
    decide
/-- nothing goes on out of a method that catches all -/
def XN : String → State → State → Prop := vx_X (fun (_ : Unit) => False) (fun _ _ _ => True) (fun _ => False)
theorem thr_at {A : Nat → Prop} {s : State} {H : Heap} {args : Array Value} {L : List Cond} (hE : ENV A s H) (h1 : ∀ w ∈ L.filter goodWord, w.before args s = true) (h2 : ∀ w ∈ L.filter (fun w => !goodWord w), w ∈ envDecl.map Cond.declares ++ envCast.map (fun c => Cond.castable c c)) : ∀ w ∈ L, w.before args s = true :=
  vx_hat h1 h2 (fun w hw => by
    rcases List.mem_append.mp hw with h | h
    · obtain ⟨q, hq, rfl⟩ := List.mem_map.mp h
      exact va_Nw.use rfl (hE.2.2.2.1 q hq)
    · obtain ⟨q, hq, rfl⟩ := List.mem_map.mp h
      exact va_Nw.use rfl (hE.2.2.2.2.1 q hq))
section SWI
variable {p : Program} {l : Launch} {e : Env} {R : Room} {s : State} {m : MethodId} {args : Array Value} {below : List Frame} {meth : Method} {c : Code} {H : Heap} {locs : List Loc} {cells slots : Nat} {Q : State → Prop}
variable {cc : ByteArray} {pc : Nat} {ls : Array Slot} {rest : List Value}
theorem tsw_d {dflt lo hi : Int} {offs : Array Int} {len : Nat} {x : Int32} {tgt : Nat} {ks : List Int} (hx : p.tables.exec = Jvm.exec) (hb : c.code = cc) (hdg : decode cc pc = .ok (.tableswitch dflt lo hi offs, len))
    (hall : ∀ j, j < offs.size → offs[j]? = some dflt ∨ (lo + (j : Int)) ∈ ks) (hsz : hi = lo + (offs.size : Int) - 1) (hks : ∀ k ∈ ks, ¬ x.toInt = k) (ht : (pc : Int) + dflt = (tgt : Int))
    (k : W p l e R s m args below meth c H locs cells slots Q (F0 m tgt ls rest)) : W p l e R s m args below meth c H locs cells slots Q (F0 m pc ls (.int x :: rest)) := by
  by_cases h1 : x.toInt < lo
  · exact lv_tableOut hx hb hdg (Or.inl h1) ht k
  · by_cases h2 : hi < x.toInt
    · exact lv_tableOut hx hb hdg (Or.inr h2) ht k
    · have hj : (x.toInt - lo).toNat < offs.size := by omega
      have ho : offs[(x.toInt - lo).toNat]? = some dflt := by
        rcases hall _ hj with h | h
        · exact h
        · exact absurd (show x.toInt = lo + (((x.toInt - lo).toNat : Nat) : Int) by omega) (hks _ h)
      exact lv_tableIn hx hb hdg h1 h2 ho ht k
end SWI
section CALLH
variable {p : Program} {l : Launch} {e : Env} {R : Room} {s : State} {m : MethodId} {args : Array Value} {below : List Frame} {meth : Method} {c : Code} {H : Heap} {locs : List Loc} {cells slots mc ms : Nat} {Q : State → Prop}
variable {pc : Nat} {ls : Array Slot} {D : va_G} {tys : List (ClassId × FieldType)} {A : Nat → Prop} {ws wc wr wn : va_W} {st0 rest : List Value} {a : Array Value}
theorem callH_i {S : Type} {wf : Int32 × S → va_W} {v : Int32 × S} (hr : vx_Run p l e R s m args below meth c H locs cells slots mc ms (F0 m pc ls st0) rest (QI D tys wf v (va_A wc H.size) a) XN (va_A wc H.size)) (hP : va_P D vwC7 ws H) (hD : va_D A ws) (hS : va_S A s.heap H locs) (hA : ∀ q, s.heap.size ≤ q → A q) (isC isR pi : List Nat) (hC : isC.map (fun i => ws[i]?) = wc.map some) (hR : isR.map (fun i => ws[i]?) = wr.map some) (hn : va_nd isR = true) (hdis : ∀ i ∈ isR, i ∉ isC) (hpi : pi.map (fun i => (wr ++ wf v)[i]?) = wn.map some) (hnp : va_nd pi = true)
    (kk : ∀ (H1 : Heap) (locs1 : List Loc), va_P D vwC7 wn H1 → va_D A wn → va_S A s.heap H1 locs1 → W p l e R s m args below meth c H1 locs1 (cells + mc) (slots + ms) Q (F0 m (pc + 3) ls (.int v.1 :: rest))) : W p l e R s m args below meth c H locs cells slots Q (F0 m pc ls st0) :=
  vx_calli hr hS (fun q _ h => va_free hD hS hA isC hC q h) (va_free hD hS hA isC hC) (fun q _ h => h.elim) (fun E ce q9 u t H1 locs1 ht hvm hw hB hz hk hS1 hce hv hcl => hw.elim) (fun r u t H1 locs1 ht hvm hw hB hz hk hS1 => by
    obtain ⟨hP1, hK1, hD1⟩ := hB
    rw [ht] at hP1
    obtain ⟨h1, h2⟩ := mix hP hD hS hA isC isR pi hC hR hn hdis hpi hnp hk hP1 hD1
    rw [show r = v.1 from hw]
    exact kk H1 locs1 h1 h2 hS1)
end CALLH
/-! ===== methods of the one constant text ===== -/
theorem va_P_nil {D : va_G} {cl : List vw_C} {H : Heap} : va_P D cl [] H := fun k q h => by simp at h
theorem va_D_nil {A : Nat → Prop} : va_D A [] := ⟨fun i j p q h => by simp at h, fun k q h => by simp at h⟩
/-! ===== over something old beside the world: the script, a text ===== -/
def EXK (Ex : (Nat → Prop) → State → Heap → Prop) : Prop := (∀ (A : Nat → Prop) (u U : State) (H : Heap), u.vm.Alike U.vm → Ex A u H → Ex A U H) ∧ (∀ (A : Nat → Prop) (U : State) (H H1 : Heap), (∀ a : Nat, a < H.size → ¬ A a → H1[a]? = H[a]?) → Ex A U H → Ex A U H1) ∧ (∀ (A B : Nat → Prop) (U : State) (H : Heap), (∀ q, B q → A q) → Ex A U H → Ex B U H)
def ExX (b L : Nat) (xs : Nat → Int32) (A : Nat → Prop) (U : State) (H : Heap) : Prop := va_X b L xs U H ∧ b < H.size ∧ ¬ A b
theorem ExX_ok {b L : Nat} {xs : Nat → Int32} : EXK (ExX b L xs) := by
  refine ⟨fun A u U H hv h => ⟨va_X.moved hv h.1, h.2⟩, fun A U H H1 hq h => ?_, fun A B U H hAB h => ⟨h.1, h.2.1, fun q => h.2.2 (hAB b q)⟩⟩
  have e := hq b h.2.1 h.2.2
  have h1 := h.1.kept e
  obtain ⟨scr, q, -⟩ := h1
  exact ⟨h.1.kept e, (Array.getElem?_eq_some_iff.mp q).1, h.2.2⟩
def ExT (n : Nat) (t : List Int32) (aK aV : Nat → Nat) (A : Nat → Prop) (U : State) (H : Heap) : Prop := vk_S 1 [n] [t] aK aV A U H
theorem ExT_ok {n : Nat} {t : List Int32} {aK aV : Nat → Nat} : EXK (ExT n t aK aV) :=
  ⟨fun _ _ _ _ hv h => vk_S.moved hv h, fun _ _ _ _ hq h => vk_S.kept h hq, fun _ _ _ _ hAB h => vk_S.narrow h hAB⟩
def PCE (Ex : (Nat → Prop) → State → Heap → Prop) (D : va_G) (tys : List (ClassId × FieldType)) (wl : va_W) (av : List Value) (sz : Nat) : Array Value → State → Prop :=
  va_Pc av (fun U => U.heap.size = sz ∧ va_P D vwC7 wl U.heap ∧ va_K D vwC7 tys U ∧ va_D (fun _ => True) wl ∧ ENV (va_A wl sz) U U.heap ∧ Ex (va_A wl sz) U U.heap)
theorem PCE_blind {Ex : (Nat → Prop) → State → Heap → Prop} (hx : EXK Ex) {D : va_G} {tys : List (ClassId × FieldType)} {wl : va_W} {av : List Value} {sz : Nat} : FrameBlind (PCE Ex D tys wl av sz) := fun a U g mk q => by
  obtain ⟨q0, q1, qP, qK, qD, qE, qX⟩ := q
  exact ⟨q0, q1, qP, va_K.moved (u := U) (U := U.calling g mk a) (Vm.Alike.refl U.vm) qK, qD, ENV.same (s := U) (U := U.calling g mk a) rfl qE, hx.1 _ U (U.calling g mk a) _ (Vm.Alike.refl U.vm) qX⟩
theorem proE {l : Launch} {y : MethodName} {ws ws' : List Cond} {rm : Room} {Ex : (Nat → Prop) → State → Heap → Prop} {D : va_G} {tys : List (ClassId × FieldType)} {wl : va_W} {av : List Value} {mc ms sz maxL : Nat} {cc : ByteArray} {ret : Option FieldType}
    {Qf : (Nat → Prop) → Array Value → State → Outcome → State → Prop} (hy : plainName y.cls = true) (hw : ws = Cond.code y cc maxL ret :: ws') (hsl : (lg_sl av).length ≤ maxL)
    (body : ∀ (p : Program) (e : Env) (s : State) (m : MethodId) (args : Array Value) (below : List Frame) (meth : Method) (c : Code), p.tables.exec = Jvm.exec → c.code = cc → meth.sig.returnType = ret → (∀ w ∈ ws, w.before args s = true) → s.vm.findClass y.cls = some m.cls → meth.locks = false → c.maxLocals = maxL → va_K D vwC7 tys s →
      ∀ A : Nat → Prop, (∀ q, s.heap.size ≤ q → A q) → ENV A s s.heap → Ex A s s.heap → va_P D vwC7 wl s.heap → va_D A wl → va_S A s.heap s.heap [] → ∀ ls, lv_has ls maxL (lv_args 0 av) →
        W p l e rm s m args below meth c s.heap [] 0 0 (MQ below (Qf A) args s mc ms A) (F0 m 0 ls [])) :
    Met l y ws rm (PCE Ex D tys wl av sz) (Qf (va_A wl sz)) mc ms (va_A wl sz) := by
  refine Met.ofW (cc := cc) (maxL := maxL) (ret := ret) hy hw ?_
  intro p e s m args below meth c s₁ B hml hv
  obtain ⟨rfl, hsz, hP, hK, hD0, hE, hX⟩ := hv
  subst hsz
  have hD := hD0.self (sz := s.heap.size)
  have hl := lv_entry av (n := maxL) hsl
  rw [lg_entry_eq]
  exact body p e s m _ below meth c B.exec B.bytes B.returns (atoms_spec (ws := ws) B.pre) (findClass_of_methodNamed B.named) B.notSynchronized hml hK _ (fun q h => Or.inr h) hE hX hP hD va_S.rf _ hl
theorem inB_nI {i : Int32} {n : Nat} (h : inB i n = true) : i.toNatClampNeg < n ∧ i = nI i.toNatClampNeg := by
  simp only [inB, Bool.and_eq_true, decide_eq_true_eq] at h
  have e : ((i.toNatClampNeg : Nat) : Int) = i.toInt := by show ((i.toInt.toNat : Nat) : Int) = i.toInt; omega
  refine ⟨by omega, Int32.toInt_inj.mp ?_⟩
  have h2 := i.toInt_lt
  rw [nI_toInt (by omega), e]
def fitB (n : Nat) (f : Nat → Int32) : Bool := (List.range n).all (fun i => fits .byte (.int (f i)))
theorem fitB_s {n : Nat} {f : Nat → Int32} (h : fitB n f = true) : ∀ i, i < n → fits .byte (.int (f i)) = true := fun i hi => List.all_eq_true.mp h i (List.mem_range.mpr hi)
theorem txt_get {n j : Nat} {f : Nat → Int32} (hj : j < n) : ((List.range n).map f).getD j 0 = va_cpy f (fun _ => 0) 0 0 n j := by
  rw [sb_cpy0 hj, List.getD_eq_getElem?_getD, List.getElem?_map, List.getElem?_range hj]
  rfl
theorem notA {D : va_G} {cl : List vw_C} {A : Nat → Prop} {ws wc : va_W} {H : Heap} {x : Nat} {e : va_E} (hP : va_P D cl ws H) (hD : va_D A ws) (isC : List Nat) (hC : isC.map (fun i => ws[i]?) = wc.map some) (i : Nat) (h : ws[i]? = some (x, e)) (hi : i ∉ isC) : ¬ va_A wc H.size x := by
  rintro (⟨k, e2, hk⟩ | hz)
  · have h1 : (wc.map some)[k]? = some (some (x, e2)) := by rw [List.getElem?_map, hk]; rfl
    rw [← hC, List.getElem?_map] at h1
    cases hz : isC[k]? with
    | none => rw [hz] at h1; cases h1
    | some j =>
      rw [hz] at h1
      have h2 : ws[j]? = some (x, e2) := Option.some.inj h1
      have h3 := hD.1 i j _ _ h h2 rfl
      exact hi (h3 ▸ List.mem_of_getElem? hz)
  · exact absurd (hP i _ h).lt (Nat.not_lt.mpr hz)
section LDC
variable {p : Program} {l : Launch} {e : Env} {R : Room} {s : State} {m : MethodId} {args : Array Value} {below : List Frame} {meth : Method} {c : Code} {H : Heap} {locs : List Loc} {cells slots : Nat} {Q : State → Prop} {cc : ByteArray} {pc : Nat} {ls : Array Slot} {rest : List Value}
theorem va_ldcSW (hexec : p.tables.exec = Jvm.exec) (hb : c.code = cc) {own tx : String} {index q : Nat} (hown : s.vm.findClass own = some m.cls) (hZ : vk_R own index tx q s) (hdg : decode cc pc = .ok (.ldc_w index, 3))
    (k : W p l e R s m args below meth c H locs cells slots Q (F0 m (pc + 3) ls (.ref q :: rest))) : W p l e R s m args below meth c H locs cells slots Q (F0 m pc ls rest) := by
  intro T hT X
  obtain ⟨t, a1, b1⟩ := k T hT X
  exact ⟨t, X.ldcStringW hexec hown (text := tx) (a := q) hZ.1 hZ.2 (g := F0 m pc ls rest) rfl (by rw [hb]; exact hdg) t a1, b1⟩
end LDC
section CALLS
variable {s : State} {H : Heap} {locs : List Loc} {D : va_G} {tys : List (ClassId × FieldType)} {A : Nat → Prop} {ws wc : va_W} {aK aV : Nat → Nat} {As : List Value} {Ex : (Nat → Prop) → State → Heap → Prop}
theorem hX_call (hx : EXK Ex) (hX : Ex A s s.heap) (hD : va_D A ws) (hS : va_S A s.heap H locs) (hA : ∀ q, s.heap.size ≤ q → A q) (isC : List Nat) (hC : isC.map (fun i => ws[i]?) = wc.map some) : ∀ U : State, U.heap = H → s.WarmedH U.vm → Ex (va_A wc H.size) U U.heap := fun U hU hW => by
  rw [hU]
  exact hx.1 _ _ _ _ hW.alike (hx.2.2 _ _ _ _ (va_free hD hS hA isC hC) (hx.2.1 _ _ _ _ hS.2.1 hX))
theorem prSE (hx : EXK Ex) (hX : ∀ U : State, U.heap = H → s.WarmedH U.vm → Ex (va_A wc H.size) U U.heap) (hE : ENV A s s.heap) (hK : va_K D vwC7 tys s) (hP : va_P D vwC7 ws H) (hD : va_D A ws) (hS : va_S A s.heap H locs) (hA : ∀ q, s.heap.size ≤ q → A q) (isC : List Nat) (hC : isC.map (fun i => ws[i]?) = wc.map some) (hnC : va_nd isC = true) {As : List Value} : PreS s H (PCE Ex D tys wc As H.size) As :=
  ⟨PCE_blind hx, fun U hU hW => ⟨rfl, by rw [hU], by rw [hU]; exact hP.sub isC (fm_of hC), va_K.moved hW.alike hK, (hD.sub isC hnC hC).weaken (fun _ _ _ _ => trivial), hE_call hE hD hS hA isC hC U hU hW, hX U hU hW⟩⟩
theorem prVE (hx : EXK Ex) (hX : ∀ U : State, U.heap = H → s.WarmedH U.vm → Ex (va_A wc H.size) U U.heap) (hE : ENV A s s.heap) (hK : va_K D vwC7 tys s) (hP : va_P D vwC7 ws H) (hD : va_D A ws) (hS : va_S A s.heap H locs) (hA : ∀ q, s.heap.size ≤ q → A q) (isC : List Nat) (hC : isC.map (fun i => ws[i]?) = wc.map some) (hnC : va_nd isC = true) {C : String} {b : Addr} {As : List Value} (ci q0 : Nat) {q : vw_C} {fs : List Value} (hc : vwC7[ci]? = some q) (hq : q.1 = C) (he : ws[q0]? = some (b, .inr (ci, fs))) : PreV s H C b (PCE Ex D tys wc (.ref b :: As) H.size) As :=
  ⟨PCE_blind hx, by rw [← hq]; exact va_recv hK hP hc he, fun U hU hW => ⟨rfl, by rw [hU], by rw [hU]; exact hP.sub isC (fm_of hC), va_K.moved hW.alike hK, (hD.sub isC hnC hC).weaken (fun _ _ _ _ => trivial), hE_call hE hD hS hA isC hC U hU hW, hX U hU hW⟩⟩
/-- the receiver is the text -/
theorem prVT {n : Nat} {t : List Int32} (hX0 : ExT n t aK aV A s s.heap) (hE : ENV A s s.heap) (hK : va_K D vwC7 tys s) (hP : va_P D vwC7 ws H) (hD : va_D A ws) (hS : va_S A s.heap H locs) (hA : ∀ q, s.heap.size ≤ q → A q) (isC : List Nat) (hC : isC.map (fun i => ws[i]?) = wc.map some) (hnC : va_nd isC = true) {As : List Value} : PreV s H "java/lang/String" (aK 0) (PCE (ExT n t aK aV) D tys wc (.ref (aK 0) :: As) H.size) As :=
  ⟨PCE_blind ExT_ok, vk_recv hX0 (by decide) hS, fun U hU hW => ⟨rfl, by rw [hU], by rw [hU]; exact hP.sub isC (fm_of hC), va_K.moved hW.alike hK, (hD.sub isC hnC hC).weaken (fun _ _ _ _ => trivial), hE_call hE hD hS hA isC hC U hU hW, hX_call ExT_ok hX0 hD hS hA isC hC U hU hW⟩⟩
end CALLS
/-! ===== throw new NoSuchElementException("text"), no traces kept: its own constructor links its superclass's by 13 ===== -/
theorem nx_chainS {args : Array Value} {s : State} {pl : Platform} (hpl : pl.magicAccessors = ({} : Platform).magicAccessors) {top : MethodId} (htop : s.methodNamed? (Bundle.initS Bundle.tN) = some top)
    (names : List String) (X : String) (hX : Bundle.fit X = true) (hn : ∀ n ∈ names, Bundle.fit n = true) (h : ∀ c ∈ nx_chain X names, c.before args s = true) :
    ∃ (P1 : PassC) (Ps : List PassC), Ps.length = names.length ∧ P1.LinksS pl s ∧ (∀ P, P ∈ Ps → P.LinksS pl s) ∧ s.methodNamed? (Bundle.initS X) = some P1.m ∧
      P1.sup = firstOf top (Ps.map (·.toPassT)) ∧ PassesOn top (Ps.map (·.toPassT)) := by
  cases names with
  | nil =>
    obtain ⟨P, L, hm, hs⟩ := PassC.ofS_atoms (args := args) (s := s) hpl (X := X) (Y := Bundle.tN) (Bundle.fit_spec hX).1 (by decide) nx_six_0 nx_six_1 nx_six_2 nx_six_5 h
    exact ⟨P, [], rfl, L, (fun _ hP => nomatch hP), hm, Option.some.inj (hs.symm.trans htop), trivial⟩
  | cons Y r =>
    obtain ⟨P, L, hm, hs⟩ := PassC.ofS_atoms (args := args) (s := s) hpl (X := X) (Y := Y) (Bundle.fit_spec hX).1 (Bundle.fit_spec (hn Y List.mem_cons_self)).2 nx_six_0 nx_six_1 nx_six_2 nx_six_5 (fun c hc => h c (List.mem_append_left _ hc))
    obtain ⟨P', Ps, hlen, L', hL, hm', hsup, hpass⟩ := Bundle.chainS hpl htop r Y (hn Y List.mem_cons_self) (fun n h' => hn n (List.mem_cons_of_mem _ h')) (fun c hc => h c (List.mem_append_right _ hc))
    refine ⟨P, P' :: Ps, by simp [hlen], L, fun Q hQ => ?_, hm, Option.some.inj (hs.symm.trans hm'), hsup, hpass⟩
    rcases List.mem_cons.mp hQ with rfl | hQ
    · exact L'
    · exact hL Q hQ
theorem nx_mem {own : String} {ic : Nat} {X : String} {names : List String} {w : Cond} (h : w ∈ Bundle.throwableAtoms ∨ w ∈ Bundle.throwableSAtoms ∨ w ∈ nx_chain X names ∨ w ∈ nx_tail own ic X) : w ∈ nx_own own ic X names := by
  simp only [nx_own, List.mem_append]
  rcases h with h | h | h | h
  · exact Or.inl (Or.inl (Or.inl h))
  · exact Or.inl (Or.inl (Or.inr h))
  · exact Or.inl (Or.inr h)
  · exact Or.inr h
section NXC
variable {p : Program} {l : Launch} {e : Env} {R : Room} {s : State} {m₀ : MethodId} {args : Array Value} {below : List Frame} {meth : Method} {c : Code} {V : State} {locs : List Loc} {cells slots : Nat}
set_option maxHeartbeats 2000000 in
theorem nx_ctor (X : Stand p l e R s m₀ args below meth c V locs cells slots) (hexec : p.tables.exec = Jvm.exec) (htr : e.platform.stackTraces = false) {own cls : String} {names : List String} {ic : Nat}
    (hown : s.vm.findClass own = some m₀.cls) (hcls : Bundle.fit cls = true) (hnames : ∀ n ∈ names, Bundle.fit n = true)
    (h : ∀ a ∈ nx_own own ic cls names, a.before args s = true)
    (hlocs : ∀ x ∈ locs, ∀ cell, s.heap[x.base]? = some cell → cell.vm.isStatics = false)
    {a : Addr} {cX : ClassId} {kX : Class} (hfoundX : s.vm.findClass cls = some cX) (hkX : s.vm.classes[cX]? = some kX) (hcell : V.heap[a]? = some (freshCell cX kX)) (hnew : s.heap.size ≤ a)
    {msg : Value} (hmsg : msg.isRef = true)
    {g : JFrame} (hg : g.method = m₀) (hsize : g.locals.size = c.maxLocals) (hlocked : g.locked = none) (hentered : g.entered = []) {rest : List Value} (hstack : g.stack = msg :: .ref a :: .ref a :: rest)
    (hd6 : decode c.code g.pc = .ok (.invokespecial ic, 3)) (hd9 : decode c.code (g.pc + 3) = .ok (.athrow, 1)) (hout : ∀ x ∈ c.exceptionTable.toList, covers x (g.pc + 3) = false)
    (hRframes : names.length + 3 < R.frames) (hRlocals : 2 * g.monitorRoom + ((Value.ref a :: rest).map fun v => v.category).sum + (13 * (names.length + 1) + 42) ≤ R.locals) (hlocks : meth.locks = false) :
    ∃ U : State, Steps p.tables e below (V.setTop g) U ∧ U.status = .running ∧ Ended U below (.threw a) ∧ s.WarmedH U.vm ∧ s.sameButNew ({ U with vm := s.vm } : State) locs cells slots ∧
      ∃ ce, U.heap[a]? = some ce ∧ ce.vm = .none ∧ s.vm.findClass cls = some ce.cls := by
  have howns : e.platform.frameOwnsMonitors = true := by rw [X.admits.platform]
  have hfin : e.platform.finalization = false := by rw [X.admits.platform]
  have hpl : e.platform.magicAccessors = ({} : Platform).magicAccessors := by rw [X.admits.platform]
  have tl : ∀ x, x ∈ nx_tail own ic cls → x.before args s = true := fun x hx => h x (nx_mem (Or.inr (Or.inr (Or.inr hx))))
  obtain ⟨T, Z0, L, -, Y⟩ := ThrowableC.of_atoms (args := args) howns hfin hpl (fun x hx => h x (nx_mem (Or.inl hx)))
  obtain ⟨Z, M, LZ, LM, hnZ⟩ := Init0T.ofS_atoms (args := args) hpl L Y (fun x hx => h x (nx_mem (Or.inr (Or.inl hx))))
  obtain ⟨P1, Ps, hlen, L1, hL, hP1m, hlink1, hlink⟩ := nx_chainS (args := args) hpl hnZ names cls hcls hnames (fun x hx => h x (nx_mem (Or.inr (Or.inr (Or.inl hx)))))
  have hfound : s.vm.findClass cls = some P1.m.cls := findClass_of_methodNamed hP1m
  cases Option.some.inj (hfoundX.symm.trans hfound)
  obtain ⟨c1, kX', hc1, hk, hord, -, -, hn6⟩ := Cond.instantiable_spec (tl (.instantiable cls 6) (by simp [nx_tail]))
  cases Option.some.inj (hc1.symm.trans hfound)
  cases Option.some.inj (hkX.symm.trans hk)
  have hselOf : ∀ (y : MethodName) (mt : MethodId), Cond.selects cls y y ∈ nx_tail own ic cls → (y.cls ≠ "java/lang/invoke/MethodHandle" ∧ y.cls ≠ "java/lang/invoke/VarHandle") → s.methodNamed? y = some mt → selectMethod e.platform s.vm P1.m.cls mt = .method mt := by
    intro y mt hy hne hnm
    obtain ⟨c2, r2, m2, q1, q2, q3, q4, -⟩ := Cond.selects_spec (tl _ hy)
    cases Option.some.inj (q1.symm.trans hfound)
    cases Option.some.inj (q2.symm.trans (State.methodFound?_of_named hnm hne))
    cases Option.some.inj (q3.symm.trans hnm)
    rw [Launch.admits_selectMethod X.admits]; exact q4
  have hsel0 := hselOf Bundle.tFill0 T.fill0 (by simp [nx_tail]) (by decide) Y.fill0
  have hselF := hselOf Bundle.tFill T.fill (by simp [nx_tail]) (by decide) Y.fill
  obtain ⟨cellS0, hcS0, hiss⟩ := Y.statics
  obtain ⟨u0, hu0⟩ := Cond.staticRefV Y.unassigned L.unassignedStatic L.statics hcS0 hiss (tl (.isRef (.static Bundle.tN "UNASSIGNED_STACK" Bundle.steD)) (by simp [nx_tail]))
  obtain ⟨sen, hsen⟩ := Cond.staticRefV Y.sentinel L.sentinelStatic L.statics hcS0 hiss (tl (.isRef (.static Bundle.tN "SUPPRESSED_SENTINEL" Bundle.listD)) (by simp [nx_tail]))
  obtain ⟨ci198, i198, fB, hk198, hg198, ha198, hsB, -, hnB, htB, hffB⟩ := Cond.ownField (t := .object "java/lang/Object") Y.found L.cls (by decide +kernel) (tl (.fieldLink Bundle.tN 198 Bundle.tN "backtrace" "Ljava/lang/Object;") (by simp [nx_tail])) (tl (.lays Bundle.tN Bundle.tN "backtrace" "Ljava/lang/Object;") (by simp [nx_tail])) e.platform hpl
  obtain ⟨cellS, hcellS, heS, -, hkeep⟩ := X.same.2.2.2.2.2 T.aS cellS0 hcS0
  have hfree : ∀ i, (⟨T.aS, i⟩ : Loc) ∉ locs := fun i hmem => by
    have := hlocs _ hmem cellS0 hcS0
    rw [hiss] at this; cases this
  have hknownS : cellS.vm ≠ .unknown := by
    rw [heS]; intro hu
    rw [show cellS0.vm = .unknown from hu] at hiss
    cases hiss
  have hneS : T.aS ≠ a := Nat.ne_of_lt (Nat.lt_of_lt_of_le (Array.getElem?_eq_some_iff.mp hcS0).1 hnew)
  obtain ⟨iM, hffM⟩ := Y.msg
  obtain ⟨tyC, dC, hdC, hdnC⟩ := Cond.laysAt hfound hk Y.cause (tl (.lays cls Bundle.tN "cause" "Ljava/lang/Throwable;") (by simp [nx_tail]))
  obtain ⟨tyS, dS, hdS, hdnS⟩ := Cond.laysAt hfound hk Y.stack (tl (.lays cls Bundle.tN "stackTrace" Bundle.steD) (by simp [nx_tail]))
  obtain ⟨tyP, dP, hdP, hdnP⟩ := Cond.laysAt hfound hk Y.supp (tl (.lays cls Bundle.tN "suppressedExceptions" Bundle.listD) (by simp [nx_tail]))
  obtain ⟨tyM, dM, hdM, hdnM⟩ := Cond.laysAt hfound hk hffM (tl (.lays cls Bundle.tN "detailMessage" "Ljava/lang/String;") (by simp [nx_tail]))
  obtain ⟨tyB, dB, hdB, hdnB⟩ := Cond.laysAt hfound hk hffB (tl (.lays cls Bundle.tN "backtrace" "Ljava/lang/Object;") (by simp [nx_tail]))
  have bC := Cond.laysApart hdB hdC hdnB hdnC (by rw [hnB, Y.causeName]; decide)
  have bS := Cond.laysApart hdB hdS hdnB hdnS (by rw [hnB, Y.stackName]; decide)
  have bP := Cond.laysApart hdB hdP hdnB hdnP (by rw [hnB, Y.suppName]; decide)
  have hskip : SkipFacts T e.platform s (fun u => u) u0 ((preparedCellV T.toThrowableT (freshCell P1.m.cls kX) a u0 sen).withEntry V.cur) :=
    ⟨{ ci198 := ci198, i198 := i198, fBack := fB }, ⟨hk198, hg198, ha198, hsB⟩, by
      have := fresh_default (c := P1.m.cls) tyB
      rw [htB] at this
      simpa [preparedCellV, Cell.setSlot, Cell.withEntry, Array.getElem?_setIfInBounds, bC, bS, bP, bC.symm, bS.symm, bP.symm, defaultValue] using this, fun _ _ => rfl⟩
  have hchain : ∀ w, w ∈ nx_chain cls names → w.before args s = true := fun x hx => h x (nx_mem (Or.inr (Or.inr (Or.inl hx))))
  obtain ⟨tm, methC, cdC, kC, vm₁, hnC, -, -, -, -, -, -, -, hW₁, st1⟩ := Steps.initColdS (tb := p.tables) (e := e) (below := below) (s := s) (U := V) X.here hexec X.warmed hpl hown (t := Bundle.initS cls) rfl rfl (Bundle.fit_spec hcls).2
    (tl (.methodLink own ic (Bundle.initS cls)) (by simp [nx_tail])) (hchain (.instanceMethod (Bundle.initS cls)) (by cases names <;> simp [nx_chain, Bundle.passSAtoms])) (bytes := nx_six) (maxL := 2) (hchain (.code (Bundle.initS cls) nx_six 2 none) (by cases names <;> simp [nx_chain, Bundle.passSAtoms]))
    (f := g) hg (a := a) (msg := msg) (rest := .ref a :: rest) hstack hd6
  cases Option.some.inj (hnC.symm.trans hP1m)
  have X₁ := X.noted hW₁
  obtain ⟨vm₂, X₂, st2⟩ := X₁.ctorMessageOffV hexec (g := { g with stack := .ref a :: rest }) hg hsize T L Z LZ M LM (P1 :: Ps)
    (fun P hP => by rcases List.mem_cons.mp hP with rfl | hP; exact L1; exact hL P hP) ⟨hlink1, hlink⟩ (u0 := u0) (sen := sen) (self := a) hmsg (cell := freshCell P1.m.cls kX) (cellS := cellS)
    hcell (fun _ => by simp) (by simp) rfl rfl hsel0 hselF hcellS hneS hknownS (by rw [hkeep _ (hfree _)]; exact hu0) (by rw [hkeep _ (hfree _)]; exact hsen)
    (Takes.of_laid hk hord tyC (by rw [Y.causeType]; rfl)) (Takes.of_laid hk hord tyS (by rw [Y.stackType]; exact fits_refV_array _ u0)) (Takes.of_laid hk hord tyP (by rw [Y.suppType]; exact fits_refV_object _ sen))
    (Takes.of_laid hk hord tyM (by rw [Y.msgType]; exact fits_refV_object _ ⟨msg, hmsg⟩)) Y.objLocals hskip htr [] hd6
    (by simp only [List.length_cons, hlen]; omega) (by simp only [List.length_cons, hlen]; exact hRlocals)
  obtain ⟨hwalk, hrun, hended, hWU, hsame⟩ := X₂.athrowLeaves hexec (g := { g with stack := .ref a :: rest, pc := g.pc + 3 }) hg hlocked hentered hout (a := a) (rest := rest) rfl hd9
  have hlt : a < ((V.setVm vm₁).setVm vm₂).heap.size := (Array.getElem?_eq_some_iff.mp hcell).1
  have hU := heapAt_setCell_self (s := (V.setVm vm₁).setVm vm₂) (plainBareV T.toThrowableT (freshCell P1.m.cls kX) a u0 sen msg) hlt
  refine ⟨_, st1 _ (fun acts => ?_), hrun, hended, hWU, hsame.weaken (fun y hy hlt' => ?_) (Nat.le_refl _) (Nat.le_refl _), _, hU, rfl, hfound⟩
  · rw [doInvoke_state]
    exact st2 _ hwalk
  · rcases List.mem_append.mp hy with h1 | h1
    · exact h1
    · exfalso
      have hb : y.base = a := by
        simp only [List.mem_cons, List.not_mem_nil, or_false] at h1
        rcases h1 with rfl | rfl | rfl | rfl | rfl <;> rfl
      rw [hb] at hlt'
      exact Nat.not_lt.mpr hnew hlt'
end NXC
section NXT
variable {p : Program} {l : Launch} {e : Env} {R : Room} {s : State} {m : MethodId} {args : Array Value} {below : List Frame} {meth : Method} {c : Code} {H : Heap} {locs : List Loc} {cells slots : Nat}
variable {free : Addr → Prop} {ls : Array Slot} {rest : List Value} {Qc : Array Value → State → Outcome → State → Prop} {XC : String → State → State → Prop}
set_option maxHeartbeats 2000000 in
theorem nx_throwS {cc : ByteArray} {pc : Nat} (hexec : p.tables.exec = Jvm.exec) (hb : c.code = cc) (hl : l.stackTraces = false) {own cls text : String} {names : List String} {ik is ic mc ms sa : Nat} {A : Nat → Prop}
    (hown : s.vm.findClass own = some m.cls) (hcls : Bundle.fit cls = true) (hnames : ∀ n ∈ names, Bundle.fit n = true)
    (hk : (Cond.classLink own ik cls).before args s = true) (hini : (Cond.initialized cls).before args s = true) (hstr : vk_R own is text sa s) (hat : ∀ w ∈ nx_atS own ic cls names, w.before args s = true)
    (hgood : ∀ w ∈ Cond.classLink own ik cls :: Cond.initialized cls :: nx_atS own ic cls names, vx_ot w = true)
    (hU : vx_Zq Bundle.tN "UNASSIGNED_STACK" Bundle.steD A s s.heap) (hN : vx_Zq Bundle.tN "SUPPRESSED_SENTINEL" Bundle.listD A s s.heap) (hS : va_S A s.heap H locs) (hsize : ls.size = c.maxLocals)
    (d0 : decode cc pc = .ok (.new ik, 3)) (d3 : decode cc (pc + 3) = .ok (.dup, 1)) (d4 : decode cc (pc + 4) = .ok (.ldc is, 2)) (d6 : decode cc (pc + 6) = .ok (.invokespecial ic, 3)) (d9 : decode cc (pc + 9) = .ok (.athrow, 1))
    (hout : ∀ x ∈ c.exceptionTable.toList, covers x (pc + 9) = false)
    (hRframes : names.length + 3 < R.frames) (hRlocals : (rest.map fun v => v.category).sum + (13 * (names.length + 1) + 43) ≤ R.locals) (hRcells : cells + 1 ≤ R.cells) (hRslots : slots + 6 ≤ R.slots) (hlocks : meth.locks = false)
    (hx : ∀ t : State, s.vm.Alike t.vm → H.size ≤ t.heap.size → (∀ q : Nat, q < H.size → t.heap[q]? = H[q]?) → XC cls s t)
    (hf : ∀ z ∈ locs, free z.base) (hc : cells + 1 ≤ mc) (hs : slots + 6 ≤ ms) :
    W p l e R s m args below meth c H locs cells slots (vx_MQ below Qc XC args s mc ms free) (F0 m pc ls rest) := by
  intro T hT X
  have htr : e.platform.stackTraces = false := (show e.platform.stackTraces = l.stackTraces by rw [X.admits.platform]).trans hl
  have Y := vx_rebase X (R' := { frames := R.frames, locals := R.locals, cells := 1, slots := 6 }) (Nat.le_refl _) (Nat.le_refl _) hRcells hRslots
  obtain ⟨s', hA⟩ : ∃ z, z = (T.setVm s.vm).setFrames (.invoking m args :: below) := ⟨_, rfl⟩
  rw [← hA] at Y
  have hvm : s'.vm = s.vm := by rw [hA]; rfl
  have hhp : s'.heap = H := by rw [hA]; exact hT
  have hW0 : s.WarmedH s'.vm := by rw [hvm]; exact State.WarmedH.refl s
  have hot : ∀ w ∈ Cond.classLink own ik cls :: Cond.initialized cls :: nx_atS own ic cls names, w.before args s = true → w.before args s' = true := fun w hw => vx_ot_at hW0 hvm.symm (hgood w hw)
  have hk' := hot _ List.mem_cons_self hk
  have hini' := hot _ (List.mem_cons_of_mem _ List.mem_cons_self) hini
  have hU' : vx_Zq Bundle.tN "UNASSIGNED_STACK" Bundle.steD A s' s'.heap := by rw [hhp]; exact vx_Zq.moved hW0.alike (hU.kept hS.2.1)
  have hN' : vx_Zq Bundle.tN "SUPPRESSED_SENTINEL" Bundle.listD A s' s'.heap := by rw [hhp]; exact vx_Zq.moved hW0.alike (hN.kept hS.2.1)
  have h : ∀ w ∈ nx_own own ic cls names, w.before args s' = true := vx_own (fun w hw => hot w (List.mem_cons_of_mem _ (List.mem_cons_of_mem _ hw)) (hat w hw)) (vx_isRefq hU'.1) (vx_isRefq hN'.1) hU'.2.word hN'.2.word
  have hown' : s'.vm.findClass own = some m.cls := by rw [hvm]; exact hown
  have hins : (Cond.instantiable cls 6).before args s' = true := h _ (nx_mem (Or.inr (Or.inr (Or.inr (by simp [nx_tail])))))
  obtain ⟨vm₁, cX, kX, hfX, hkX, -, -, X₁, st1⟩ := Y.newCold hexec (own := own) (C := cls) (index := ik) (n := 6) hown' hk' hins hini'
    (g := F0 m pc ls rest) rfl (by rw [hb]; exact d0) (Nat.le_refl _) (Nat.le_refl _)
  generalize hT1 : (T.setVm vm₁).pushCell { cls := cX, slots := kX.instanceTypes.map defaultValue, vm := .none } = T1 at X₁ st1
  have hcat : (Value.ref T.heap.size).category = 1 := rfl
  have hcellA : T1.heap[T.heap.size]? = some (freshCell cX kX) := by rw [← hT1]; exact State.heap_pushCell_size _ _
  have d3' : decode c.code (pc + 3) = .ok (.dup, 1) := by rw [hb]; exact d3
  have d4' : decode c.code (pc + 4) = .ok (.ldc is, 2) := by rw [hb]; exact d4
  have hstr' : vk_R own is text sa s' := vk_R.warm hW0 hstr
  obtain ⟨U, hsteps, hrun, hend, hW, hsame, ce, hce, hcv, hcc⟩ := nx_ctor X₁ hexec htr (own := own) (cls := cls) (names := names) (ic := ic) hown' hcls hnames h (fun x hx => nomatch hx) hfX hkX hcellA (by rw [hhp, hT]; exact Nat.le_refl _) (msg := .ref sa) rfl
    (g := { method := m, pc := pc + 6, locals := ls, stack := .ref sa :: .ref T.heap.size :: .ref T.heap.size :: rest, locked := none }) rfl hsize rfl rfl (rest := rest) rfl
    (by rw [hb]; exact d6) (by rw [hb]; exact d9) hout hRframes (by simp only [List.map_cons, List.sum_cons, hcat]; omega) hlocks
  obtain ⟨f1, f2⟩ := vx_frame hsame
  rw [hhp] at f1 f2
  have hWs : s.WarmedH U.vm := State.WarmedH.trans hW0 hW
  have hcl : s.vm.findClass cls = some ce.cls := by rw [← hvm]; exact hcc
  have hall : s.sameButNew ({ U with vm := s.vm } : State) locs mc ms := by
    subst hA
    obtain ⟨e1, e2⟩ := hsame
    rw [State.setFrames_setFrames] at e1
    have h2 : (T.setVm s.vm).sameButNew ({ U with vm := s.vm } : State) [] (0 + 1) (0 + 6) := ⟨e1, e2⟩
    have h3 := X.same.trans h2
    rw [List.append_nil] at h3
    exact h3.mono hc hs
  refine ⟨U, ?_, .threw T.heap.size, hrun, hend, Or.inr ⟨T.heap.size, rfl, cls, ce, locs, hx U hWs.alike f1 (fun q hq => f2 q hq (fun z hz => nomatch hz)), hce, hcv, hcl, hWs, hall, hf⟩⟩
  refine st1 _ ?_
  show Steps p.tables e below (T1.setTop { method := m, pc := pc + 3, locals := ls, stack := .ref T.heap.size :: rest, locked := none }) _
  jvm_step X₁.here [X₁.here.top, hexec, d3', Value.category]
  exact X₁.ldcString hexec (own := own) (text := text) (index := is) (a := sa) hown' hstr'.1 hstr'.2
    (g := { method := m, pc := pc + 4, locals := ls, stack := .ref T.heap.size :: .ref T.heap.size :: rest, locked := none }) rfl d4' _ hsteps
end NXT
