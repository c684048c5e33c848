/-! contracts of the JDK's own methods: their class has native rows, the method hasn't -/
theorem z_ofW {l : Launch} {y : MethodName} {ws ws' : List Cond} {rm : Room} {Pc : Array Value → State → Prop} {Qc : Array Value → State → Outcome → State → Prop} {mc ms : Nat} {free : Addr → Prop} {cc : ByteArray} {maxL : Nat} {ret : Option FieldType}
    (hy : plainFor y = true) (hw : ws = Cond.code y cc maxL ret :: ws')
    (body : ∀ p e s m args below meth c s₁, BodyLoose p l y (headSpec ws rm) cc maxL ret e s m args below meth c s₁ → c.maxLocals = maxL → Pc args s →
      W p l e (headSpec ws rm).room s m args below meth c s.heap [] 0 0 (MQ below Qc args s mc ms free) (entryFrame m args maxL)) : Met l y ws rm Pc Qc mc ms free := by
  refine MetFree.of_bodySF (code := cc) (maxLocals := maxL) (ret := ret) hy ?_ ?_
  · intro args s m h hn
    obtain ⟨meth, c, h1, h2, h3, h4, h5, h6, -, -⟩ := Cond.code_spec hn (atoms_spec (ws := ws) h _ (by rw [hw]; exact List.mem_cons_self))
    exact ⟨meth, c, h1, h2, h3, h4, h5, h6⟩
  · intro p e s m args below meth c s₁ B hml hP _
    have hh0 : s₁.heap = s.heap := by rw [B.state]; rfl
    obtain ⟨t, a1, o, b1, b2, b3⟩ := body p e s m args below meth c s₁ B hml hP s₁ hh0 (Stand.of_body B)
    exact ⟨t, o, a1, b1, b2, ⟨b3.1, b3.2⟩⟩
theorem z_ciJ_of {l : Launch} {own : String} {cc : ByteArray} {nL : Nat} {ret : Option FieldType} {D : va_G} {tys : List (ClassId × FieldType)} {w w1 : va_W} {fr lo : Nat} {y : MethodName} {av : List Value} {r : Int32} (hy : plainFor y = true) (hcls : y.cls = own)
    (body : ∀ (p : Program) (e : Env) (s : State) (m : MethodId) (below : List Frame) (meth : Method) (c : Code) (A : Nat → Prop), z_cx own cc nL ret D tys A p s m av.toArray meth c → z_wd D w A s s.heap [] → W p l e (z_rm fr lo) s m av.toArray below meth c s.heap [] 0 0 (z_qi below D tys w1 A s av.toArray r) (entryFrame m av.toArray nL)) : z_ci l y cc nL ret fr lo D tys w w1 av r := by
  intro sz
  refine z_ofW (cc := cc) (maxL := nL) (ret := ret) hy rfl ?_
  intro p e s m args below meth c s₁ B hml hv
  obtain ⟨rfl, hsz, hP, hK, hD0⟩ := hv
  have hts := atoms_spec (ws := z_ws y cc nL ret) B.pre
  have hown : s.vm.findClass own = some m.cls := by rw [← hcls]; exact findClass_of_methodNamed B.named
  subst hsz
  exact body p e s m below meth c (va_A w s.heap.size) ⟨B.exec, B.bytes, B.returns, B.notSynchronized, hml, hown, fun w' h => hts w' (List.mem_cons_of_mem _ h), hK, fun q h => Or.inr h⟩ ⟨hP, hD0.self, va_S.rf⟩
theorem z_clJ_of {l : Launch} {own : String} {cc : ByteArray} {nL : Nat} {ret : Option FieldType} {D : va_G} {tys : List (ClassId × FieldType)} {w w1 : va_W} {fr lo : Nat} {y : MethodName} {av : List Value} {r : Int64} (hy : plainFor y = true) (hcls : y.cls = own)
    (body : ∀ (p : Program) (e : Env) (s : State) (m : MethodId) (below : List Frame) (meth : Method) (c : Code) (A : Nat → Prop), z_cx own cc nL ret D tys A p s m av.toArray meth c → z_wd D w A s s.heap [] → W p l e (z_rm fr lo) s m av.toArray below meth c s.heap [] 0 0 (z_ql below D tys w1 A s av.toArray r) (entryFrame m av.toArray nL)) : z_cl l y cc nL ret fr lo D tys w w1 av r := by
  intro sz
  refine z_ofW (cc := cc) (maxL := nL) (ret := ret) hy rfl ?_
  intro p e s m args below meth c s₁ B hml hv
  obtain ⟨rfl, hsz, hP, hK, hD0⟩ := hv
  have hts := atoms_spec (ws := z_ws y cc nL ret) B.pre
  have hown : s.vm.findClass own = some m.cls := by rw [← hcls]; exact findClass_of_methodNamed B.named
  subst hsz
  exact body p e s m below meth c (va_A w s.heap.size) ⟨B.exec, B.bytes, B.returns, B.notSynchronized, hml, hown, fun w' h => hts w' (List.mem_cons_of_mem _ h), hK, fun q h => Or.inr h⟩ ⟨hP, hD0.self, va_S.rf⟩
