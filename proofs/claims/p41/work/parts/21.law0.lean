def lawC (p : Program) (l : Launch) (s : State) (m : MethodId) (meth : Method) (c : Code) (b L : Nat) (xs : Nat → Int32) (D : va_G) (K : Nat → ClassId) : Prop :=
  p.tables.exec = Jvm.exec ∧ c.code = cL_law ∧ meth.sig.returnType = ret ∧ s.vm.findClass RL = some m.cls ∧ (∀ w ∈ wsL_law, w.before #[Value.ref b] s = true) ∧ c.maxLocals = 11 ∧ meth.locks = false ∧ va_K D vwC7 (TY K) s ∧ ENV (fun q : Nat => s.heap.size ≤ q) s s.heap ∧ ExX b L xs (fun q : Nat => s.heap.size ≤ q) s s.heap ∧ l.stackTraces = false

